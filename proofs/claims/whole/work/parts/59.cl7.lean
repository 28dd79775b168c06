theorem hinX3_takenNotes_X3 : ∀ w ∈ wsX30, w ∈ wsX3_takenNotes := fun _ h => List.mem_cons_of_mem _ (List.mem_append_right _ h)
set_option maxHeartbeats 4000000 in
set_option maxRecDepth 100000 in
theorem c3_takenNotes (l_ : Launch) (D : va_G) (k : Nat → ClassId) (a : Nat → Nat) (tS : Nat) (sk sv : Nat → Nat) (Y : Nat → Nat) (Nt : Nat → Nat) (Sl : Nat → Nat) (Mt : Nat → Nat) (Ch : Nat → Nat → Nat) (w nt v : Nat) (hw : w < 8) (hv : v < 8) (hn : nt < 12) (hs : ∀ v, Sl v < 2) : Met l_ yX3_takenNotes wsX3_takenNotes ({ frames := 0, cells := 0, slots := 0, locals := 0 }) (va_Pc [.ref (a 39), .int (nI w), .int (nI nt), .int (nI v)] (wH (Am tS sk sv) D k (tu a k Y Nt Sl Mt Ch))) (QcRead (nI (kTn (Sl w) (Sl v) nt))) 0 0 (fun _ => False) := by
  refine my_entry (cc := cX3_takenNotes) (maxL := 6) (ret := some .int) (by decide) rfl (Nat.le_of_ble_eq_true rfl) ?_
  intro p_ e_ s_ m_ bl_ me_ c_ hz hr hlk hB ls hl
  obtain ⟨hP, hK, hD0, hy⟩ := hB
  have hD := wA.self hD0
  have hS : va_S (wA (tu a k Y Nt Sl Mt Ch)) s_.heap s_.heap [] := va_S.rf
  have hl : lv_has ls 6 [(0, .ref (a 39)), (1, .int (nI w)), (2, .int (nI nt)), (3, .int (nI v))] := hl
  have s1 := hs w
  have s2 := hs v
  refine lv_aload_n hz.1 hz.2.1 dX3_takenNotes_0 rfl (lv_at hl 0 rfl) ?_
  refine rg (T := TX3) (N := 5) hz hinX3_takenNotes_X3 hK hP 0 rfl rfl 1 (by decide) (List.mem_of_getElem? (i := 1) rfl) rfl (v := .ref (a 41)) rfl dX3_takenNotes_1 ?_
  refine lv_iload_n hz.1 hz.2.1 dX3_takenNotes_4 rfl (lv_at hl 1 rfl) ?_
  refine rzald hz hK hP 2 2 rfl rfl (i := w) (by omega) (by decide) (v := nI (Sl w)) rfl dX3_takenNotes_5 ?_
  refine lv_aload_n hz.1 hz.2.1 dX3_takenNotes_6 rfl (lv_at hl 0 rfl) ?_
  refine rg (T := TX3) (N := 5) hz hinX3_takenNotes_X3 hK hP 0 rfl rfl 1 (by decide) (List.mem_of_getElem? (i := 1) rfl) rfl (v := .ref (a 41)) rfl dX3_takenNotes_7 ?_
  refine lv_iload_n hz.1 hz.2.1 dX3_takenNotes_10 rfl (lv_at hl 3 rfl) ?_
  refine rzald hz hK hP 2 2 rfl rfl (i := v) (by omega) (by decide) (v := nI (Sl v)) rfl dX3_takenNotes_11 ?_
  refine jne (tgt := 19) hz dX3_takenNotes_12 (by decide) (by omega) (by omega) (fun c_12 => ?_) (fun c_12 => ?_)
  · refine lv_aload_n hz.1 hz.2.1 dX3_takenNotes_19 rfl (lv_at hl 0 rfl) ?_
    refine rg (T := TX3) (N := 5) hz hinX3_takenNotes_X3 hK hP 0 rfl rfl 1 (by decide) (List.mem_of_getElem? (i := 1) rfl) rfl (v := .ref (a 41)) rfl dX3_takenNotes_20 ?_
    refine lv_iload_n hz.1 hz.2.1 dX3_takenNotes_23 rfl (lv_at hl 1 rfl) ?_
    refine rzald hz hK hP 2 2 rfl rfl (i := w) (by omega) (by decide) (v := nI (Sl w)) rfl dX3_takenNotes_24 ?_
    refine jeq0 (tgt := 37) hz dX3_takenNotes_25 (by decide) (by omega) (fun c_25 => ?_) (fun c_25 => ?_)
    · refine lv_iload_n hz.1 hz.2.1 dX3_takenNotes_37 rfl (lv_at hl 2 rfl) ?_
      refine lv_istore (lv' := [(4, .int (nI nt)), (0, .ref (a 39)), (1, .int (nI w)), (2, .int (nI nt)), (3, .int (nI v))]) hz.1 hz.2.1 dX3_takenNotes_38 hl (by decide) rfl (fun ls hl => ?_)
      refine lv_bipush (v := nI 63) hz.1 hz.2.1 dX3_takenNotes_40 (by decide) ?_
      refine lv_iload hz.1 hz.2.1 dX3_takenNotes_42 (lv_at hl 0 rfl) ?_
      refine lv_bipush (v := nI 12) hz.1 hz.2.1 dX3_takenNotes_44 (by decide) ?_
      refine lv_irem hz.1 hz.2.1 dX3_takenNotes_46 (nI_ne0 (by omega) (by omega)) ?_
      refine toe (z := nI (nt % 12)) (pk_rem (by omega) (by omega) (by omega)) ?_
      refine lv_ishl hz.1 hz.2.1 dX3_takenNotes_47 ?_
      refine toe (z := nI (63 * 2 ^ (nt % 12))) (k63i _) ?_
      have k6 := k63 nt
      refine lv_istore (lv' := [(5, .int (nI (63 * 2 ^ (nt % 12)))), (4, .int (nI nt)), (0, .ref (a 39)), (1, .int (nI w)), (2, .int (nI nt)), (3, .int (nI v))]) hz.1 hz.2.1 dX3_takenNotes_48 hl (by decide) rfl (fun ls hl => ?_)
      refine lv_iload hz.1 hz.2.1 dX3_takenNotes_50 (lv_at hl 0 rfl) ?_
      refine lv_iload hz.1 hz.2.1 dX3_takenNotes_52 (lv_at hl 0 rfl) ?_
      refine lv_bipush (v := nI 12) hz.1 hz.2.1 dX3_takenNotes_54 (by decide) ?_
      refine lv_ishr hz.1 hz.2.1 dX3_takenNotes_56 ?_
      refine toe (z := nI ((63 * 2 ^ (nt % 12)) / 4096)) (nI_shr (s := 12) (by omega) (by decide)) ?_
      refine lv_ior hz.1 hz.2.1 dX3_takenNotes_57 ?_
      refine toe (z := nI ((63 * 2 ^ (nt % 12)) ||| ((63 * 2 ^ (nt % 12)) / 4096))) (fa_or _ _) ?_
      refine lv_sipush (v := nI 4095) hz.1 hz.2.1 dX3_takenNotes_58 (by decide) ?_
      refine lv_iand hz.1 hz.2.1 dX3_takenNotes_61 ?_
      refine toe (z := nI (((63 * 2 ^ (nt % 12)) ||| ((63 * 2 ^ (nt % 12)) / 4096)) &&& 4095)) (fa_and _ _) ?_
      exact rd_iret hz hr hlk dX3_takenNotes_62 (by rw [kTn, if_neg c_12, if_pos c_25])
    · refine lv_iload_n hz.1 hz.2.1 dX3_takenNotes_28 rfl (lv_at hl 2 rfl) ?_
      refine lv_bipush (v := nI 12) hz.1 hz.2.1 dX3_takenNotes_29 (by decide) ?_
      refine lv_iadd hz.1 hz.2.1 dX3_takenNotes_31 ?_
      refine toe (z := nI (nt + 12)) (nI_add _ _) ?_
      refine lv_iconst (v := nI 5) hz.1 hz.2.1 dX3_takenNotes_32 (by decide) ?_
      refine lv_isub hz.1 hz.2.1 dX3_takenNotes_33 ?_
      refine toe (z := nI ((nt + 12) - 5)) (pk_sub (by omega)) ?_
      refine lv_goto (tgt := 38) hz.1 hz.2.1 dX3_takenNotes_34 (by decide) ?_
      refine lv_istore (lv' := [(4, .int (nI ((nt + 12) - 5))), (0, .ref (a 39)), (1, .int (nI w)), (2, .int (nI nt)), (3, .int (nI v))]) hz.1 hz.2.1 dX3_takenNotes_38 hl (by decide) rfl (fun ls hl => ?_)
      refine lv_bipush (v := nI 63) hz.1 hz.2.1 dX3_takenNotes_40 (by decide) ?_
      refine lv_iload hz.1 hz.2.1 dX3_takenNotes_42 (lv_at hl 0 rfl) ?_
      refine lv_bipush (v := nI 12) hz.1 hz.2.1 dX3_takenNotes_44 (by decide) ?_
      refine lv_irem hz.1 hz.2.1 dX3_takenNotes_46 (nI_ne0 (by omega) (by omega)) ?_
      refine toe (z := nI (((nt + 12) - 5) % 12)) (pk_rem (by omega) (by omega) (by omega)) ?_
      refine lv_ishl hz.1 hz.2.1 dX3_takenNotes_47 ?_
      refine toe (z := nI (63 * 2 ^ (((nt + 12) - 5) % 12))) (k63i _) ?_
      have k6 := k63 (((nt + 12) - 5))
      refine lv_istore (lv' := [(5, .int (nI (63 * 2 ^ (((nt + 12) - 5) % 12)))), (4, .int (nI ((nt + 12) - 5))), (0, .ref (a 39)), (1, .int (nI w)), (2, .int (nI nt)), (3, .int (nI v))]) hz.1 hz.2.1 dX3_takenNotes_48 hl (by decide) rfl (fun ls hl => ?_)
      refine lv_iload hz.1 hz.2.1 dX3_takenNotes_50 (lv_at hl 0 rfl) ?_
      refine lv_iload hz.1 hz.2.1 dX3_takenNotes_52 (lv_at hl 0 rfl) ?_
      refine lv_bipush (v := nI 12) hz.1 hz.2.1 dX3_takenNotes_54 (by decide) ?_
      refine lv_ishr hz.1 hz.2.1 dX3_takenNotes_56 ?_
      refine toe (z := nI ((63 * 2 ^ (((nt + 12) - 5) % 12)) / 4096)) (nI_shr (s := 12) (by omega) (by decide)) ?_
      refine lv_ior hz.1 hz.2.1 dX3_takenNotes_57 ?_
      refine toe (z := nI ((63 * 2 ^ (((nt + 12) - 5) % 12)) ||| ((63 * 2 ^ (((nt + 12) - 5) % 12)) / 4096))) (fa_or _ _) ?_
      refine lv_sipush (v := nI 4095) hz.1 hz.2.1 dX3_takenNotes_58 (by decide) ?_
      refine lv_iand hz.1 hz.2.1 dX3_takenNotes_61 ?_
      refine toe (z := nI (((63 * 2 ^ (((nt + 12) - 5) % 12)) ||| ((63 * 2 ^ (((nt + 12) - 5) % 12)) / 4096)) &&& 4095)) (fa_and _ _) ?_
      exact rd_iret hz hr hlk dX3_takenNotes_62 (by rw [kTn, if_neg c_12, if_neg c_25])
  · refine lv_iconst (v := nI 1) hz.1 hz.2.1 dX3_takenNotes_15 (by decide) ?_
    refine lv_iload_n hz.1 hz.2.1 dX3_takenNotes_16 rfl (lv_at hl 2 rfl) ?_
    refine lv_ishl hz.1 hz.2.1 dX3_takenNotes_17 ?_
    refine toe (z := nI (2 ^ nt)) (nI_shl1 (by omega)) ?_
    exact rd_iret hz hr hlk dX3_takenNotes_18 (by rw [kTn, if_pos c_12])

theorem hinX3_mostBound_X3 : ∀ w ∈ wsX30, w ∈ wsX3_mostBound := fun _ h => List.mem_cons_of_mem _ (List.mem_append_right _ h)
set_option maxHeartbeats 4000000 in
set_option maxRecDepth 100000 in
theorem c3_mostBound (l_ : Launch) (D : va_G) (k : Nat → ClassId) (a : Nat → Nat) (tS : Nat) (sk sv : Nat → Nat) (Y : Nat → Nat) (Nt : Nat → Nat) (Sl : Nat → Nat) (Mt : Nat → Nat) (Ch : Nat → Nat → Nat) (O d : Nat) (hO : O < 256) (hd : d < 9) (hC : ∀ i v, Ch i v < 4096) : Met l_ yX3_mostBound wsX3_mostBound ({ frames := 1, cells := 0, slots := 0, locals := 21 }) (va_Pc [.ref (a 39), .int (nI O), .int (nI d)] (wH (Am tS sk sv) D k (tu a k Y Nt Sl Mt Ch))) (QcRead (nI ((kMb O (Ch d) 8).1))) 0 0 (fun _ => False) := by
  refine my_entry (cc := cX3_mostBound) (maxL := 7) (ret := some .int) (by decide) rfl (Nat.le_of_ble_eq_true rfl) ?_
  intro p_ e_ s_ m_ bl_ me_ c_ hz hr hlk hB ls hl
  obtain ⟨hP, hK, hD0, hy⟩ := hB
  have hD := wA.self hD0
  have hS : va_S (wA (tu a k Y Nt Sl Mt Ch)) s_.heap s_.heap [] := va_S.rf
  have hl : lv_has ls 7 [(0, .ref (a 39)), (1, .int (nI O)), (2, .int (nI d))] := hl
  refine lv_iconst (v := nI 0) hz.1 hz.2.1 dX3_mostBound_0 (by decide) ?_
  refine lv_istore_n (lv' := [(3, .int (nI 0)), (0, .ref (a 39)), (1, .int (nI O)), (2, .int (nI d))]) hz.1 hz.2.1 dX3_mostBound_1 rfl hl (by decide) rfl (fun ls hl => ?_)
  refine lv_bipush (v := nI 13) hz.1 hz.2.1 dX3_mostBound_2 (by decide) ?_
  refine lv_istore (lv' := [(4, .int (nI 13)), (3, .int (nI 0)), (0, .ref (a 39)), (1, .int (nI O)), (2, .int (nI d))]) hz.1 hz.2.1 dX3_mostBound_4 hl (by decide) rfl (fun ls hl => ?_)
  refine lv_iconst (v := nI 0) hz.1 hz.2.1 dX3_mostBound_6 (by decide) ?_
  refine lv_istore (lv' := [(5, .int (nI 0)), (4, .int (nI 13)), (3, .int (nI 0)), (0, .ref (a 39)), (1, .int (nI O)), (2, .int (nI d))]) hz.1 hz.2.1 dX3_mostBound_7 hl (by decide) rfl (fun ls hl => ?_)
  have lp_9 : ∀ (fu : Nat) (w : Nat), (w ≤ 8) → 8 - w < fu → ∀ ls : Array Slot, lv_has ls 7 [(0, .ref (a 39)), (1, .int (nI O)), (2, .int (nI d)), (3, .int (nI ((kMb O (Ch d) w).1))), (4, .int (nI ((kMb O (Ch d) w).2))), (5, .int (nI w))] → W p_ l_ e_ ({ frames := 1, cells := 0, slots := 0, locals := 21 }) s_ m_ [.ref (a 39), .int (nI O), .int (nI d)].toArray bl_ me_ c_ s_.heap [] 0 0 (MQ bl_ (QcRead (nI ((kMb O (Ch d) 8).1))) [.ref (a 39), .int (nI O), .int (nI d)].toArray s_ 0 0 (fun _ => False)) (F0 m_ 9 ls []) := by
    intro fu
    induction fu with
    | zero => intro w hw hm; exact absurd hm (Nat.not_lt_zero _)
    | succ fu ih9 =>
      intro w hw hm ls hl
      refine lv_iload hz.1 hz.2.1 dX3_mostBound_9 (lv_at hl 5 rfl) ?_
      refine lv_bipush (v := nI 8) hz.1 hz.2.1 dX3_mostBound_11 (by decide) ?_
      refine jge (tgt := 59) hz dX3_mostBound_13 (by decide) (by omega) (by omega) (fun c_13 => ?_) (fun c_13 => ?_)
      · obtain rfl : w = 8 := by omega
        refine lv_iload_n hz.1 hz.2.1 dX3_mostBound_59 rfl (lv_at hl 3 rfl) ?_
        exact rd_iret hz hr hlk dX3_mostBound_60 (rfl)
      · have c1 := hC d w
        have p1 := sPop_le (Ch d w)
        have p2 := kMb_le O (Ch d) w
        refine lv_aload_n hz.1 hz.2.1 dX3_mostBound_16 rfl (lv_at hl 0 rfl) ?_
        refine rg (T := TX3) (N := 5) hz hinX3_mostBound_X3 hK hP 0 rfl rfl 3 (by decide) (List.mem_of_getElem? (i := 1) rfl) rfl (v := .ref (a 43)) rfl dX3_mostBound_17 ?_
        refine lv_iload_n hz.1 hz.2.1 dX3_mostBound_20 rfl (lv_at hl 2 rfl) ?_
        refine rald4 hz hK hP 4 rfl (i := d) (v := a (44 + d)) (by omega) (by decide) (if_pos (by omega)) dX3_mostBound_21 ?_
        refine lv_iload hz.1 hz.2.1 dX3_mostBound_22 (lv_at hl 5 rfl) ?_
        refine rald hz hK hP (5 + d) 0 (tu_at (by omega)) rfl (i := w) (by omega) (by decide) (v := nI (Ch d w)) rfl dX3_mostBound_24 ?_
        refine rdS (As := [.int (nI (Ch d w))]) (rest := []) hz (cJ_bit l_ (Ch d w) (by omega)) rfl (va_cwS 1 hz.2.2.2.2 gX3_mostBound_J6_bitCount_0f7a4 rfl rfl rfl (by decide +kernel) ⟨Nat.le_of_ble_eq_true rfl, Nat.le_of_ble_eq_true rfl⟩) rfl hl.1 rfl (Nat.le_of_ble_eq_true rfl) dX3_mostBound_25 ⟨Nat.zero_le _, Nat.zero_le _⟩ ?_
        refine lv_istore (lv' := [(6, .int (nI (sPop (Ch d w)))), (0, .ref (a 39)), (1, .int (nI O)), (2, .int (nI d)), (3, .int (nI ((kMb O (Ch d) w).1))), (4, .int (nI ((kMb O (Ch d) w).2))), (5, .int (nI w))]) hz.1 hz.2.1 dX3_mostBound_28 hl (by decide) rfl (fun ls hl => ?_)
        refine lv_iload_n hz.1 hz.2.1 dX3_mostBound_30 rfl (lv_at hl 2 rfl) ?_
        refine lv_iload hz.1 hz.2.1 dX3_mostBound_31 (lv_at hl 6 rfl) ?_
        refine rdSN (n := 2) (As := [.int (nI O), .int (nI w)]) (rest := []) hz (c5_has l_ O w (by omega) (by omega)) rfl gX3_mostBound_X5_has_n68 rfl ⟨rfl, rfl⟩ hy (List.mem_of_getElem? (i := 6) rfl) (List.mem_of_getElem? (i := 10) rfl) (List.mem_of_getElem? (i := 9) rfl) (by decide +kernel) ⟨Nat.le_of_ble_eq_true rfl, Nat.le_of_ble_eq_true rfl⟩ rfl hl.1 rfl (Nat.le_of_ble_eq_true rfl) dX3_mostBound_33 ⟨Nat.zero_le _, Nat.zero_le _⟩ ?_
        refine zeq (tgt := 53) hz dX3_mostBound_36 (by decide) (fun c_36 => ?_) (fun c_36 => ?_)
        · have es := kMb_0 (O := O) (c := Ch d) (w := w) (fun q => absurd (c_36.symm.trans q.1) (by decide))
          rw [← es] at hl
          refine lv_iinc (v := nI (w + 1)) (lv' := [(5, .int (nI (w + 1))), (6, .int (nI (sPop (Ch d w)))), (0, .ref (a 39)), (1, .int (nI O)), (2, .int (nI d)), (3, .int (nI ((kMb O (Ch d) (w + 1)).1))), (4, .int (nI ((kMb O (Ch d) (w + 1)).2)))]) hz.1 hz.2.1 dX3_mostBound_53 hl (k := 6) rfl (nI_add _ 1) (by decide) rfl (fun ls hl => ?_)
          refine lv_goto (tgt := 9) hz.1 hz.2.1 dX3_mostBound_56 (by decide) ?_
          exact ih9 (w + 1) (by omega) (by omega) ls (lv_sub hl [2, 3, 4, 5, 6, 0] rfl)
        · refine lv_iload hz.1 hz.2.1 dX3_mostBound_39 (lv_at hl 0 rfl) ?_
          refine lv_iload hz.1 hz.2.1 dX3_mostBound_41 (lv_at hl 5 rfl) ?_
          refine jge (tgt := 53) hz dX3_mostBound_43 (by decide) (by omega) (by omega) (fun c_43 => ?_) (fun c_43 => ?_)
          · have es := kMb_0 (O := O) (c := Ch d) (w := w) (fun q => c_43 q.2)
            rw [← es] at hl
            refine lv_iinc (v := nI (w + 1)) (lv' := [(5, .int (nI (w + 1))), (6, .int (nI (sPop (Ch d w)))), (0, .ref (a 39)), (1, .int (nI O)), (2, .int (nI d)), (3, .int (nI ((kMb O (Ch d) (w + 1)).1))), (4, .int (nI ((kMb O (Ch d) (w + 1)).2)))]) hz.1 hz.2.1 dX3_mostBound_53 hl (k := 6) rfl (nI_add _ 1) (by decide) rfl (fun ls hl => ?_)
            refine lv_goto (tgt := 9) hz.1 hz.2.1 dX3_mostBound_56 (by decide) ?_
            exact ih9 (w + 1) (by omega) (by omega) ls (lv_sub hl [2, 3, 4, 5, 6, 0] rfl)
          · refine lv_iload hz.1 hz.2.1 dX3_mostBound_46 (lv_at hl 6 rfl) ?_
            refine toe (z := nI ((kMb O (Ch d) (w + 1)).1)) (by rw [kMb_1 c_36 c_43]) ?_
            refine lv_istore_n (lv' := [(3, .int (nI ((kMb O (Ch d) (w + 1)).1))), (6, .int (nI (sPop (Ch d w)))), (0, .ref (a 39)), (1, .int (nI O)), (2, .int (nI d)), (4, .int (nI ((kMb O (Ch d) w).2))), (5, .int (nI w))]) hz.1 hz.2.1 dX3_mostBound_48 rfl hl (by decide) rfl (fun ls hl => ?_)
            refine lv_iload hz.1 hz.2.1 dX3_mostBound_49 (lv_at hl 1 rfl) ?_
            refine toe (z := nI ((kMb O (Ch d) (w + 1)).2)) (by rw [kMb_1 c_36 c_43]) ?_
            refine lv_istore (lv' := [(4, .int (nI ((kMb O (Ch d) (w + 1)).2))), (3, .int (nI ((kMb O (Ch d) (w + 1)).1))), (6, .int (nI (sPop (Ch d w)))), (0, .ref (a 39)), (1, .int (nI O)), (2, .int (nI d)), (5, .int (nI w))]) hz.1 hz.2.1 dX3_mostBound_51 hl (by decide) rfl (fun ls hl => ?_)
            refine lv_iinc (v := nI (w + 1)) (lv' := [(5, .int (nI (w + 1))), (4, .int (nI ((kMb O (Ch d) (w + 1)).2))), (3, .int (nI ((kMb O (Ch d) (w + 1)).1))), (6, .int (nI (sPop (Ch d w)))), (0, .ref (a 39)), (1, .int (nI O)), (2, .int (nI d))]) hz.1 hz.2.1 dX3_mostBound_53 hl (k := 6) rfl (nI_add _ 1) (by decide) rfl (fun ls hl => ?_)
            refine lv_goto (tgt := 9) hz.1 hz.2.1 dX3_mostBound_56 (by decide) ?_
            exact ih9 (w + 1) (by omega) (by omega) ls (lv_sub hl [4, 5, 6, 2, 1, 0] rfl)
  exact lp_9 _ 0 (by omega) (Nat.lt_succ_self _) ls (lv_sub hl [3, 4, 5, 2, 1, 0] rfl)

theorem hinX3_narrows_X3 : ∀ w ∈ wsX30, w ∈ wsX3_narrows := fun _ h => List.mem_cons_of_mem _ (List.mem_append_right _ h)
set_option maxHeartbeats 4000000 in
set_option maxRecDepth 100000 in
theorem c3_narrows (l_ : Launch) (D : va_G) (k : Nat → ClassId) (a : Nat → Nat) (tS : Nat) (sk sv : Nat → Nat) (Y : Nat → Nat) (Nt : Nat → Nat) (Sl : Nat → Nat) (Mt : Nat → Nat) (Ch : Nat → Nat → Nat) (w nt rs d : Nat) (hw : w < 8) (hn : nt < 12) (hr : rs < 256) (hd : d < 8) (hs : ∀ v, Sl v < 2) (hm : Mt w < 256) (hC : ∀ i v, Ch i v < 4096) : Met l_ yX3_narrows wsX3_narrows ({ frames := 1, cells := 0, slots := 0, locals := 25 }) (va_Pc [.ref (a 39), .int (nI w), .int (nI nt), .int (nI rs), .int (nI d)] (wH (Am tS sk sv) D k (tu a k Y Nt Sl Mt Ch))) (va_Qi (fun (r : Int32) (u : Nat → Nat) => r = bI (sAll (kNB Mt Sl (Ch d) rs w nt) 8) ∧ (∀ v, u v < 4096) ∧ (sAll (kNB Mt Sl (Ch d) rs w nt) 8 = true → u = kNr Mt Sl (Ch d) rs w nt (Ch (d + 1)) 8)) (fun (u : Nat → Nat) (t_ : State) => va_P D vwCl ((fun (u : Nat → Nat) => tu a k Y Nt Sl Mt (gset Ch (d + 1) u)) u) t_.heap) (wA (tu a k Y Nt Sl Mt Ch))) 0 0 (wA (tu a k Y Nt Sl Mt Ch)) := by
  refine my_entry (cc := cX3_narrows) (maxL := 7) (ret := some .boolean) (by decide) rfl (Nat.le_of_ble_eq_true rfl) ?_
  intro p_ e_ s_ m_ bl_ me_ c_ hz hr hlk hB ls hl
  obtain ⟨hP, hK, hD0, hy⟩ := hB
  have hD := wA.self hD0
  have hS : va_S (wA (tu a k Y Nt Sl Mt Ch)) s_.heap s_.heap [] := va_S.rf
  have hl : lv_has ls 7 [(0, .ref (a 39)), (1, .int (nI w)), (2, .int (nI nt)), (3, .int (nI rs)), (4, .int (nI d))] := hl
  refine lv_iconst (v := nI 0) hz.1 hz.2.1 dX3_narrows_0 (by decide) ?_
  refine lv_istore (lv' := [(5, .int (nI 0)), (0, .ref (a 39)), (1, .int (nI w)), (2, .int (nI nt)), (3, .int (nI rs)), (4, .int (nI d))]) hz.1 hz.2.1 dX3_narrows_1 hl (by decide) rfl (fun ls hl => ?_)
  have lp_3 : ∀ (fu : Nat) (i : Nat), (i ≤ 8) → (sAll (kNB Mt Sl (Ch d) rs w nt) i = true) → 8 - i < fu → ∀ ls : Array Slot, ∀ (H : Heap) (locs : List Loc), va_P D vwCl (tu a k Y Nt Sl Mt (gset Ch (d + 1) (kNr Mt Sl (Ch d) rs w nt (Ch (d + 1)) i))) H → va_S (wA (tu a k Y Nt Sl Mt Ch)) s_.heap H locs → lv_has ls 7 [(0, .ref (a 39)), (1, .int (nI w)), (2, .int (nI nt)), (3, .int (nI rs)), (4, .int (nI d)), (5, .int (nI i))] → W p_ l_ e_ ({ frames := 1, cells := 0, slots := 0, locals := 25 }) s_ m_ [.ref (a 39), .int (nI w), .int (nI nt), .int (nI rs), .int (nI d)].toArray bl_ me_ c_ H locs 0 0 (MQ bl_ (va_Qi (fun (r : Int32) (u : Nat → Nat) => r = bI (sAll (kNB Mt Sl (Ch d) rs w nt) 8) ∧ (∀ v, u v < 4096) ∧ (sAll (kNB Mt Sl (Ch d) rs w nt) 8 = true → u = kNr Mt Sl (Ch d) rs w nt (Ch (d + 1)) 8)) (fun (u : Nat → Nat) (t_ : State) => va_P D vwCl ((fun (u : Nat → Nat) => tu a k Y Nt Sl Mt (gset Ch (d + 1) u)) u) t_.heap) (wA (tu a k Y Nt Sl Mt Ch))) [.ref (a 39), .int (nI w), .int (nI nt), .int (nI rs), .int (nI d)].toArray s_ 0 0 (wA (tu a k Y Nt Sl Mt Ch))) (F0 m_ 3 ls []) := by
    intro fu
    induction fu with
    | zero => intro i hi hok hm; exact absurd hm (Nat.not_lt_zero _)
    | succ fu ih3 =>
      intro i hi hok hm ls H locs hP hS hl
      have hD : va_D (wA (tu a k Y Nt Sl Mt Ch)) (tu a k Y Nt Sl Mt (gset Ch (d + 1) (kNr Mt Sl (Ch d) rs w nt (Ch (d + 1)) i))) := hD.same rfl
      refine lv_iload hz.1 hz.2.1 dX3_narrows_3 (lv_at hl 5 rfl) ?_
      refine lv_bipush (v := nI 8) hz.1 hz.2.1 dX3_narrows_5 (by decide) ?_
      refine jge (tgt := 97) hz dX3_narrows_7 (by decide) (by omega) (by omega) (fun c_7 => ?_) (fun c_7 => ?_)
      · obtain rfl : i = 8 := by omega
        refine lv_iconst (v := nI 1) hz.1 hz.2.1 dX3_narrows_97 (by decide) ?_
        exact wr_zret hz hr hlk dX3_narrows_98 hS (bI_1 hok) ((kNr Mt Sl (Ch d) rs w nt (Ch (d + 1)) 8)) hP (⟨rfl, kNr_lt (hC d) (hC (d + 1)) _, fun _ => rfl⟩)
      · have c1 := hC d i
        have c2 := kNw_le Mt Sl (Ch d) w nt i
        refine lv_iload_n hz.1 hz.2.1 dX3_narrows_10 rfl (lv_at hl 3 rfl) ?_
        refine lv_iload hz.1 hz.2.1 dX3_narrows_11 (lv_at hl 5 rfl) ?_
        refine rdSN (n := 2) (As := [.int (nI rs), .int (nI i)]) (rest := []) hz (c5_has l_ rs i (by omega) (by omega)) rfl gX3_narrows_X5_has_n68 rfl ⟨rfl, rfl⟩ hy (List.mem_of_getElem? (i := 6) rfl) (List.mem_of_getElem? (i := 4) rfl) (List.mem_of_getElem? (i := 3) rfl) (by decide +kernel) ⟨Nat.le_of_ble_eq_true rfl, Nat.le_of_ble_eq_true rfl⟩ rfl hl.1 rfl (Nat.le_of_ble_eq_true rfl) dX3_narrows_13 ⟨Nat.zero_le _, Nat.zero_le _⟩ ?_
        refine zeq (tgt := 91) hz dX3_narrows_16 (by decide) (fun c_16 => ?_) (fun c_16 => ?_)
        · refine lv_iinc (v := nI (i + 1)) (lv' := [(5, .int (nI (i + 1))), (0, .ref (a 39)), (1, .int (nI w)), (2, .int (nI nt)), (3, .int (nI rs)), (4, .int (nI d))]) hz.1 hz.2.1 dX3_narrows_91 hl (k := 5) rfl (nI_add _ 1) (by decide) rfl (fun ls hl => ?_)
          refine lv_goto (tgt := 3) hz.1 hz.2.1 dX3_narrows_94 (by decide) ?_
          have hP : va_P D vwCl (tu a k Y Nt Sl Mt (gset Ch (d + 1) (kNr Mt Sl (Ch d) rs w nt (Ch (d + 1)) (i + 1)))) H := by rw [← kNr_s _ _ _ _ _ _ _ c_16]; exact hP
          exact ih3 (i + 1) (by omega) (by rw [sAll, hok, kNB, c_16]; rfl) (by omega) ls H locs hP hS (lv_sub hl [1, 2, 3, 4, 5, 0] rfl)
        · refine lv_aload_n hz.1 hz.2.1 dX3_narrows_19 rfl (lv_at hl 0 rfl) ?_
          refine rg (T := TX3) (N := 5) hz hinX3_narrows_X3 hK hP 0 rfl rfl 2 (by decide) (List.mem_of_getElem? (i := 1) rfl) rfl (v := .ref (a 42)) rfl dX3_narrows_20 ?_
          refine lv_iload_n hz.1 hz.2.1 dX3_narrows_23 rfl (lv_at hl 1 rfl) ?_
          refine rald hz hK hP 3 0 rfl rfl (i := w) (by omega) (by decide) (v := nI (Mt w)) rfl dX3_narrows_24 ?_
          refine lv_iload hz.1 hz.2.1 dX3_narrows_25 (lv_at hl 5 rfl) ?_
          refine rdSN (n := 2) (As := [.int (nI (Mt w)), .int (nI i)]) (rest := []) hz (c5_has l_ (Mt w) i (by omega) (by omega)) rfl gX3_narrows_X5_has_n68 rfl ⟨rfl, rfl⟩ hy (List.mem_of_getElem? (i := 6) rfl) (List.mem_of_getElem? (i := 4) rfl) (List.mem_of_getElem? (i := 3) rfl) (by decide +kernel) ⟨Nat.le_of_ble_eq_true rfl, Nat.le_of_ble_eq_true rfl⟩ rfl hl.1 rfl (Nat.le_of_ble_eq_true rfl) dX3_narrows_27 ⟨Nat.zero_le _, Nat.zero_le _⟩ ?_
          refine zeq (tgt := 44) hz dX3_narrows_30 (by decide) (fun c_30 => ?_) (fun c_30 => ?_)
          · refine lv_iconst (v := nI 0) hz.1 hz.2.1 dX3_narrows_44 (by decide) ?_
            refine toe (z := nI (if (Mt w).testBit i then kTn (Sl w) (Sl i) nt else 0)) (by rw [if_neg (by rw [c_30]; decide)]) ?_
            refine lv_istore (lv' := [(6, .int (nI (if (Mt w).testBit i then kTn (Sl w) (Sl i) nt else 0))), (0, .ref (a 39)), (1, .int (nI w)), (2, .int (nI nt)), (3, .int (nI rs)), (4, .int (nI d)), (5, .int (nI i))]) hz.1 hz.2.1 dX3_narrows_45 hl (by decide) rfl (fun ls hl => ?_)
            refine lv_aload_n hz.1 hz.2.1 dX3_narrows_47 rfl (lv_at hl 1 rfl) ?_
            refine rg (T := TX3) (N := 5) hz hinX3_narrows_X3 hK hP 0 rfl rfl 3 (by decide) (List.mem_of_getElem? (i := 2) rfl) rfl (v := .ref (a 43)) rfl dX3_narrows_48 ?_
            refine lv_iload hz.1 hz.2.1 dX3_narrows_51 (lv_at hl 5 rfl) ?_
            refine lv_iconst (v := nI 1) hz.1 hz.2.1 dX3_narrows_53 (by decide) ?_
            refine lv_iadd hz.1 hz.2.1 dX3_narrows_54 ?_
            refine toe (z := nI (d + 1)) (nI_add _ _) ?_
            refine rald4 hz hK hP 4 rfl (i := (d + 1)) (v := a (44 + (d + 1))) (by omega) (by decide) (if_pos (by omega)) dX3_narrows_55 ?_
            refine lv_iload hz.1 hz.2.1 dX3_narrows_56 (lv_at hl 6 rfl) ?_
            refine lv_aload_n hz.1 hz.2.1 dX3_narrows_58 rfl (lv_at hl 1 rfl) ?_
            refine rg (T := TX3) (N := 5) hz hinX3_narrows_X3 hK hP 0 rfl rfl 3 (by decide) (List.mem_of_getElem? (i := 2) rfl) rfl (v := .ref (a 43)) rfl dX3_narrows_59 ?_
            refine lv_iload hz.1 hz.2.1 dX3_narrows_62 (lv_at hl 5 rfl) ?_
            refine rald4 hz hK hP 4 rfl (i := d) (v := a (44 + d)) (by omega) (by decide) (if_pos (by omega)) dX3_narrows_64 ?_
            refine lv_iload hz.1 hz.2.1 dX3_narrows_65 (lv_at hl 6 rfl) ?_
            refine rald hz hK hP (5 + d) 0 (tu_at (by omega)) rfl (i := i) (by omega) (by decide) (v := nI ((gset Ch (d + 1) (kNr Mt Sl (Ch d) rs w nt (Ch (d + 1)) i)) d i)) rfl dX3_narrows_67 ?_
            refine toe (z := nI (Ch d i)) (by rw [gset_ne _ _ (by omega)]) ?_
            refine lv_iload hz.1 hz.2.1 dX3_narrows_68 (lv_at hl 0 rfl) ?_
            refine lv_iconst (v := (-1)) hz.1 hz.2.1 dX3_narrows_70 (by decide) ?_
            refine lv_ixor hz.1 hz.2.1 dX3_narrows_71 ?_
            refine lv_iand hz.1 hz.2.1 dX3_narrows_72 ?_
            refine toe (z := nI (kNw Mt Sl (Ch d) w nt i)) (nI_andnot _ _) ?_
            refine rast hz hK hP hD hS (5 + ((d + 1))) 0 (tu_at (by omega)) rfl (i := i) (v := (kNw Mt Sl (Ch d) w nt i)) (by omega) (by decide) dX3_narrows_73 (fun H locs hP hS => ?_)
            rw [tu_set (by omega)] at hP
            have hP : va_P D vwCl (tu a k Y Nt Sl Mt (gset Ch (d + 1) (kNr Mt Sl (Ch d) rs w nt (Ch (d + 1)) (i + 1)))) H := by rw [gset_same, gset_twice, kNr_1 _ _ _ _ _ _ _ c_16] at hP; exact hP
            have hD : va_D (wA (tu a k Y Nt Sl Mt Ch)) (tu a k Y Nt Sl Mt (gset Ch (d + 1) (kNr Mt Sl (Ch d) rs w nt (Ch (d + 1)) (i + 1)))) := hD.same rfl
            refine lv_aload_n hz.1 hz.2.1 dX3_narrows_74 rfl (lv_at hl 1 rfl) ?_
            refine rg (T := TX3) (N := 5) hz hinX3_narrows_X3 hK hP 0 rfl rfl 3 (by decide) (List.mem_of_getElem? (i := 2) rfl) rfl (v := .ref (a 43)) rfl dX3_narrows_75 ?_
            refine lv_iload hz.1 hz.2.1 dX3_narrows_78 (lv_at hl 5 rfl) ?_
            refine lv_iconst (v := nI 1) hz.1 hz.2.1 dX3_narrows_80 (by decide) ?_
            refine lv_iadd hz.1 hz.2.1 dX3_narrows_81 ?_
            refine toe (z := nI (d + 1)) (nI_add _ _) ?_
            refine rald4 hz hK hP 4 rfl (i := (d + 1)) (v := a (44 + (d + 1))) (by omega) (by decide) (if_pos (by omega)) dX3_narrows_82 ?_
            refine lv_iload hz.1 hz.2.1 dX3_narrows_83 (lv_at hl 6 rfl) ?_
            refine rald hz hK hP (5 + ((d + 1))) 0 (tu_at (by omega)) rfl (i := i) (by omega) (by decide) (v := nI ((gset Ch (d + 1) (kNr Mt Sl (Ch d) rs w nt (Ch (d + 1)) (i + 1))) ((d + 1)) i)) rfl dX3_narrows_85 ?_
            refine toe (z := nI (kNw Mt Sl (Ch d) w nt i)) (by rw [gset_same, kNr_at c_16]) ?_
            refine jne0 (tgt := 91) hz dX3_narrows_86 (by decide) (by omega) (fun c_86 => ?_) (fun c_86 => ?_)
            · refine lv_iinc (v := nI (i + 1)) (lv' := [(5, .int (nI (i + 1))), (6, .int (nI (if (Mt w).testBit i then kTn (Sl w) (Sl i) nt else 0))), (0, .ref (a 39)), (1, .int (nI w)), (2, .int (nI nt)), (3, .int (nI rs)), (4, .int (nI d))]) hz.1 hz.2.1 dX3_narrows_91 hl (k := 6) rfl (nI_add _ 1) (by decide) rfl (fun ls hl => ?_)
              refine lv_goto (tgt := 3) hz.1 hz.2.1 dX3_narrows_94 (by decide) ?_
              exact ih3 (i + 1) (by omega) (by rw [sAll, hok, kNB, c_16, decide_eq_true c_86]; rfl) (by omega) ls H locs hP hS (lv_sub hl [2, 3, 4, 5, 6, 0] rfl)
            · have hno : sAll (kNB Mt Sl (Ch d) rs w nt) 8 = false := sAll_no8 (i := i) (by rw [kNB, c_16, decide_eq_false (fun q => q c_86)]; rfl) c_7
              refine lv_iconst (v := nI 0) hz.1 hz.2.1 dX3_narrows_89 (by decide) ?_
              exact wr_zret hz hr hlk dX3_narrows_90 hS (bI_0 hno) ((kNr Mt Sl (Ch d) rs w nt (Ch (d + 1)) (i + 1))) hP (⟨rfl, kNr_lt (hC d) (hC (d + 1)) _, fun q => absurd (hno.symm.trans q) (by decide)⟩)
          · refine lv_aload_n hz.1 hz.2.1 dX3_narrows_33 rfl (lv_at hl 0 rfl) ?_
            refine lv_iload_n hz.1 hz.2.1 dX3_narrows_34 rfl (lv_at hl 1 rfl) ?_
            refine lv_iload_n hz.1 hz.2.1 dX3_narrows_35 rfl (lv_at hl 2 rfl) ?_
            refine lv_iload hz.1 hz.2.1 dX3_narrows_36 (lv_at hl 5 rfl) ?_
            refine rdV (A := wA (tu a k Y Nt Sl Mt Ch)) (As := [.int (nI w), .int (nI nt), .int (nI i)]) (rest := []) hz (okAm tS sk sv) (c3_takenNotes l_ D k a tS sk sv Y Nt Sl Mt (gset Ch (d + 1) (kNr Mt Sl (Ch d) rs w nt (Ch (d + 1)) i))  w nt i (by omega) (by omega) (by omega) hs) (cwV 3 hz.2.2.2.2 gX3_narrows_X3_takenNotes rfl rfl rfl (by decide +kernel) ⟨Nat.le_of_ble_eq_true rfl, Nat.le_of_ble_eq_true rfl⟩) hK hy hP hD hS 0 3 rfl rfl rfl rfl hl.1 rfl (Nat.le_of_ble_eq_true rfl) dX3_narrows_38 ⟨Nat.zero_le _, Nat.zero_le _⟩ ?_
            refine lv_goto (tgt := 45) hz.1 hz.2.1 dX3_narrows_41 (by decide) ?_
            refine toe (z := nI (if (Mt w).testBit i then kTn (Sl w) (Sl i) nt else 0)) (by rw [if_pos c_30]) ?_
            refine lv_istore (lv' := [(6, .int (nI (if (Mt w).testBit i then kTn (Sl w) (Sl i) nt else 0))), (0, .ref (a 39)), (1, .int (nI w)), (2, .int (nI nt)), (3, .int (nI rs)), (4, .int (nI d)), (5, .int (nI i))]) hz.1 hz.2.1 dX3_narrows_45 hl (by decide) rfl (fun ls hl => ?_)
            refine lv_aload_n hz.1 hz.2.1 dX3_narrows_47 rfl (lv_at hl 1 rfl) ?_
            refine rg (T := TX3) (N := 5) hz hinX3_narrows_X3 hK hP 0 rfl rfl 3 (by decide) (List.mem_of_getElem? (i := 2) rfl) rfl (v := .ref (a 43)) rfl dX3_narrows_48 ?_
            refine lv_iload hz.1 hz.2.1 dX3_narrows_51 (lv_at hl 5 rfl) ?_
            refine lv_iconst (v := nI 1) hz.1 hz.2.1 dX3_narrows_53 (by decide) ?_
            refine lv_iadd hz.1 hz.2.1 dX3_narrows_54 ?_
            refine toe (z := nI (d + 1)) (nI_add _ _) ?_
            refine rald4 hz hK hP 4 rfl (i := (d + 1)) (v := a (44 + (d + 1))) (by omega) (by decide) (if_pos (by omega)) dX3_narrows_55 ?_
            refine lv_iload hz.1 hz.2.1 dX3_narrows_56 (lv_at hl 6 rfl) ?_
            refine lv_aload_n hz.1 hz.2.1 dX3_narrows_58 rfl (lv_at hl 1 rfl) ?_
            refine rg (T := TX3) (N := 5) hz hinX3_narrows_X3 hK hP 0 rfl rfl 3 (by decide) (List.mem_of_getElem? (i := 2) rfl) rfl (v := .ref (a 43)) rfl dX3_narrows_59 ?_
            refine lv_iload hz.1 hz.2.1 dX3_narrows_62 (lv_at hl 5 rfl) ?_
            refine rald4 hz hK hP 4 rfl (i := d) (v := a (44 + d)) (by omega) (by decide) (if_pos (by omega)) dX3_narrows_64 ?_
            refine lv_iload hz.1 hz.2.1 dX3_narrows_65 (lv_at hl 6 rfl) ?_
            refine rald hz hK hP (5 + d) 0 (tu_at (by omega)) rfl (i := i) (by omega) (by decide) (v := nI ((gset Ch (d + 1) (kNr Mt Sl (Ch d) rs w nt (Ch (d + 1)) i)) d i)) rfl dX3_narrows_67 ?_
            refine toe (z := nI (Ch d i)) (by rw [gset_ne _ _ (by omega)]) ?_
            refine lv_iload hz.1 hz.2.1 dX3_narrows_68 (lv_at hl 0 rfl) ?_
            refine lv_iconst (v := (-1)) hz.1 hz.2.1 dX3_narrows_70 (by decide) ?_
            refine lv_ixor hz.1 hz.2.1 dX3_narrows_71 ?_
            refine lv_iand hz.1 hz.2.1 dX3_narrows_72 ?_
            refine toe (z := nI (kNw Mt Sl (Ch d) w nt i)) (nI_andnot _ _) ?_
            refine rast hz hK hP hD hS (5 + ((d + 1))) 0 (tu_at (by omega)) rfl (i := i) (v := (kNw Mt Sl (Ch d) w nt i)) (by omega) (by decide) dX3_narrows_73 (fun H locs hP hS => ?_)
            rw [tu_set (by omega)] at hP
            have hP : va_P D vwCl (tu a k Y Nt Sl Mt (gset Ch (d + 1) (kNr Mt Sl (Ch d) rs w nt (Ch (d + 1)) (i + 1)))) H := by rw [gset_same, gset_twice, kNr_1 _ _ _ _ _ _ _ c_16] at hP; exact hP
            have hD : va_D (wA (tu a k Y Nt Sl Mt Ch)) (tu a k Y Nt Sl Mt (gset Ch (d + 1) (kNr Mt Sl (Ch d) rs w nt (Ch (d + 1)) (i + 1)))) := hD.same rfl
            refine lv_aload_n hz.1 hz.2.1 dX3_narrows_74 rfl (lv_at hl 1 rfl) ?_
            refine rg (T := TX3) (N := 5) hz hinX3_narrows_X3 hK hP 0 rfl rfl 3 (by decide) (List.mem_of_getElem? (i := 2) rfl) rfl (v := .ref (a 43)) rfl dX3_narrows_75 ?_
            refine lv_iload hz.1 hz.2.1 dX3_narrows_78 (lv_at hl 5 rfl) ?_
            refine lv_iconst (v := nI 1) hz.1 hz.2.1 dX3_narrows_80 (by decide) ?_
            refine lv_iadd hz.1 hz.2.1 dX3_narrows_81 ?_
            refine toe (z := nI (d + 1)) (nI_add _ _) ?_
            refine rald4 hz hK hP 4 rfl (i := (d + 1)) (v := a (44 + (d + 1))) (by omega) (by decide) (if_pos (by omega)) dX3_narrows_82 ?_
            refine lv_iload hz.1 hz.2.1 dX3_narrows_83 (lv_at hl 6 rfl) ?_
            refine rald hz hK hP (5 + ((d + 1))) 0 (tu_at (by omega)) rfl (i := i) (by omega) (by decide) (v := nI ((gset Ch (d + 1) (kNr Mt Sl (Ch d) rs w nt (Ch (d + 1)) (i + 1))) ((d + 1)) i)) rfl dX3_narrows_85 ?_
            refine toe (z := nI (kNw Mt Sl (Ch d) w nt i)) (by rw [gset_same, kNr_at c_16]) ?_
            refine jne0 (tgt := 91) hz dX3_narrows_86 (by decide) (by omega) (fun c_86 => ?_) (fun c_86 => ?_)
            · refine lv_iinc (v := nI (i + 1)) (lv' := [(5, .int (nI (i + 1))), (6, .int (nI (if (Mt w).testBit i then kTn (Sl w) (Sl i) nt else 0))), (0, .ref (a 39)), (1, .int (nI w)), (2, .int (nI nt)), (3, .int (nI rs)), (4, .int (nI d))]) hz.1 hz.2.1 dX3_narrows_91 hl (k := 6) rfl (nI_add _ 1) (by decide) rfl (fun ls hl => ?_)
              refine lv_goto (tgt := 3) hz.1 hz.2.1 dX3_narrows_94 (by decide) ?_
              exact ih3 (i + 1) (by omega) (by rw [sAll, hok, kNB, c_16, decide_eq_true c_86]; rfl) (by omega) ls H locs hP hS (lv_sub hl [2, 3, 4, 5, 6, 0] rfl)
            · have hno : sAll (kNB Mt Sl (Ch d) rs w nt) 8 = false := sAll_no8 (i := i) (by rw [kNB, c_16, decide_eq_false (fun q => q c_86)]; rfl) c_7
              refine lv_iconst (v := nI 0) hz.1 hz.2.1 dX3_narrows_89 (by decide) ?_
              exact wr_zret hz hr hlk dX3_narrows_90 hS (bI_0 hno) ((kNr Mt Sl (Ch d) rs w nt (Ch (d + 1)) (i + 1))) hP (⟨rfl, kNr_lt (hC d) (hC (d + 1)) _, fun q => absurd (hno.symm.trans q) (by decide)⟩)
  have hP : va_P D vwCl (tu a k Y Nt Sl Mt (gset Ch (d + 1) (kNr Mt Sl (Ch d) rs w nt (Ch (d + 1)) 0))) s_.heap := by rw [kNr_0, gset_self]; exact hP
  exact lp_3 _ 0 (by omega) (rfl) (Nat.lt_succ_self _) ls _ _ hP hS (lv_sub hl [1, 2, 3, 4, 5, 0] rfl)

theorem hinX3_tuneRest_X3 : ∀ w ∈ wsX30, w ∈ wsX3_tuneRest := fun _ h => List.mem_cons_of_mem _ (List.mem_append_right _ h)
set_option maxHeartbeats 4000000 in
set_option maxRecDepth 100000 in
theorem c3_tuneRest_8 (l_ : Launch) (D : va_G) (k : Nat → ClassId) (a : Nat → Nat) (tS : Nat) (sk sv : Nat → Nat) (Y : Nat → Nat) (Nt : Nat → Nat) (Sl : Nat → Nat) (Mt : Nat → Nat) (Ch : Nat → Nat → Nat) (O : Nat) (hH : kHyp Mt Sl O) (hs : ∀ v, Sl v < 2) (hC : ∀ i v, Ch i v < 4096) (hp0 : sPop O + 8 ≤ 8) : Met l_ yX3_tuneRest wsX3_tuneRest ({ frames := 0, cells := 0, slots := 0, locals := 0 }) (va_Pc [.ref (a 39), .int (nI O), .int (nI 8)] (wH (Am tS sk sv) D k (tu a k Y Nt Sl Mt Ch))) (va_Qi (fun (r : Int32) (u : Nat → Nat → Nat) => r = bI (kSolB Mt Sl O (Ch 8)) ∧ (∀ i, i ≤ 8 → u i = Ch i) ∧ (∀ i v, u i v < 4096)) (fun (u : Nat → Nat → Nat) (t_ : State) => va_P D vwCl ((fun (u : Nat → Nat → Nat) => tu a k Y Nt Sl Mt u) u) t_.heap) (wA (tu a k Y Nt Sl Mt Ch))) 0 0 (wA (tu a k Y Nt Sl Mt Ch)) := by
  refine my_entry (cc := cX3_tuneRest) (maxL := 8) (ret := some .boolean) (by decide) rfl (Nat.le_of_ble_eq_true rfl) ?_
  intro p_ e_ s_ m_ bl_ me_ c_ hz hr hlk hB ls hl
  obtain ⟨hP, hK, hD0, hy⟩ := hB
  have hD := wA.self hD0
  have hS : va_S (wA (tu a k Y Nt Sl Mt Ch)) s_.heap s_.heap [] := va_S.rf
  have hl : lv_has ls 8 [(0, .ref (a 39)), (1, .int (nI O)), (2, .int (nI 8))] := hl
  have o1 := hH.1
  refine lv_iload_n hz.1 hz.2.1 dX3_tuneRest_0 rfl (lv_at hl 1 rfl) ?_
  refine jne0 (tgt := 6) hz dX3_tuneRest_1 (by decide) (by omega) (fun c_1 => ?_) (fun c_1 => ?_)
  · refine lv_iload_n hz.1 hz.2.1 dX3_tuneRest_6 rfl (lv_at hl 2 rfl) ?_
    refine lv_bipush (v := nI 8) hz.1 hz.2.1 dX3_tuneRest_7 (by decide) ?_
    refine jlt (tgt := 14) hz dX3_tuneRest_9 (by decide) (by omega) (by omega) (fun c_9 => ?_) (fun c_9 => ?_)
    · exact absurd c_9 (by decide)
    · exfalso; have := pop_0 o1 c_1; omega
  · refine lv_iconst (v := nI 1) hz.1 hz.2.1 dX3_tuneRest_4 (by decide) ?_
    exact wr_zret hz hr hlk dX3_tuneRest_5 hS (bI_1 (by rw [c_1]; exact kSolB_t.mpr kSol_0)) Ch hP (⟨rfl, fun _ _ => rfl, hC⟩)

set_option maxHeartbeats 4000000 in
set_option maxRecDepth 100000 in
theorem c3_tuneRest_7 (l_ : Launch) (D : va_G) (k : Nat → ClassId) (a : Nat → Nat) (tS : Nat) (sk sv : Nat → Nat) (Y : Nat → Nat) (Nt : Nat → Nat) (Sl : Nat → Nat) (Mt : Nat → Nat) (Ch : Nat → Nat → Nat) (O : Nat) (hH : kHyp Mt Sl O) (hs : ∀ v, Sl v < 2) (hC : ∀ i v, Ch i v < 4096) (hp0 : sPop O + 7 ≤ 8) : Met l_ yX3_tuneRest wsX3_tuneRest ({ frames := 2, cells := 0, slots := 0, locals := 51 }) (va_Pc [.ref (a 39), .int (nI O), .int (nI 7)] (wH (Am tS sk sv) D k (tu a k Y Nt Sl Mt Ch))) (va_Qi (fun (r : Int32) (u : Nat → Nat → Nat) => r = bI (kSolB Mt Sl O (Ch 7)) ∧ (∀ i, i ≤ 7 → u i = Ch i) ∧ (∀ i v, u i v < 4096)) (fun (u : Nat → Nat → Nat) (t_ : State) => va_P D vwCl ((fun (u : Nat → Nat → Nat) => tu a k Y Nt Sl Mt u) u) t_.heap) (wA (tu a k Y Nt Sl Mt Ch))) 0 0 (wA (tu a k Y Nt Sl Mt Ch)) := by
  refine my_entry (cc := cX3_tuneRest) (maxL := 8) (ret := some .boolean) (by decide) rfl (Nat.le_of_ble_eq_true rfl) ?_
  intro p_ e_ s_ m_ bl_ me_ c_ hz hr hlk hB ls hl
  obtain ⟨hP, hK, hD0, hy⟩ := hB
  have hD := wA.self hD0
  have hS : va_S (wA (tu a k Y Nt Sl Mt Ch)) s_.heap s_.heap [] := va_S.rf
  have hl : lv_has ls 8 [(0, .ref (a 39)), (1, .int (nI O)), (2, .int (nI 7))] := hl
  have o1 := hH.1
  refine lv_iload_n hz.1 hz.2.1 dX3_tuneRest_0 rfl (lv_at hl 1 rfl) ?_
  refine jne0 (tgt := 6) hz dX3_tuneRest_1 (by decide) (by omega) (fun c_1 => ?_) (fun c_1 => ?_)
  · refine lv_iload_n hz.1 hz.2.1 dX3_tuneRest_6 rfl (lv_at hl 2 rfl) ?_
    refine lv_bipush (v := nI 8) hz.1 hz.2.1 dX3_tuneRest_7 (by decide) ?_
    refine jlt (tgt := 14) hz dX3_tuneRest_9 (by decide) (by omega) (by omega) (fun c_9 => ?_) (fun c_9 => ?_)
    · refine lv_aload_n hz.1 hz.2.1 dX3_tuneRest_14 rfl (lv_at hl 0 rfl) ?_
      refine lv_iload_n hz.1 hz.2.1 dX3_tuneRest_15 rfl (lv_at hl 1 rfl) ?_
      refine lv_iload_n hz.1 hz.2.1 dX3_tuneRest_16 rfl (lv_at hl 2 rfl) ?_
      refine rdV (A := wA (tu a k Y Nt Sl Mt Ch)) (As := [.int (nI O), .int (nI 7)]) (rest := []) hz (okAm tS sk sv) (c3_mostBound l_ D k a tS sk sv Y Nt Sl Mt Ch O 7 o1 (by decide) hC) (cwV 2 hz.2.2.2.2 gX3_tuneRest_X3_mostBound rfl rfl rfl (by decide +kernel) ⟨Nat.le_of_ble_eq_true rfl, Nat.le_of_ble_eq_true rfl⟩) hK hy hP hD hS 0 3 rfl rfl rfl rfl hl.1 rfl (Nat.le_of_ble_eq_true rfl) dX3_tuneRest_17 ⟨Nat.zero_le _, Nat.zero_le _⟩ ?_
      have mb := kMb_end o1 c_1 (fun w _ => hC 7 w)
      generalize (kMb O (Ch 7) 8).1 = w at mb ⊢
      obtain ⟨w8, wO, wmin⟩ := mb
      refine lv_istore_n (lv' := [(3, .int (nI w)), (0, .ref (a 39)), (1, .int (nI O)), (2, .int (nI 7))]) hz.1 hz.2.1 dX3_tuneRest_20 rfl hl (by decide) rfl (fun ls hl => ?_)
      refine lv_iload_n hz.1 hz.2.1 dX3_tuneRest_21 rfl (lv_at hl 2 rfl) ?_
      refine lv_iconst (v := nI 1) hz.1 hz.2.1 dX3_tuneRest_22 (by decide) ?_
      refine lv_iload_n hz.1 hz.2.1 dX3_tuneRest_23 rfl (lv_at hl 0 rfl) ?_
      refine lv_ishl hz.1 hz.2.1 dX3_tuneRest_24 ?_
      refine toe (z := nI (2 ^ w)) (nI_shl1 (by omega)) ?_
      refine lv_iconst (v := (-1)) hz.1 hz.2.1 dX3_tuneRest_25 (by decide) ?_
      refine lv_ixor hz.1 hz.2.1 dX3_tuneRest_26 ?_
      refine lv_iand hz.1 hz.2.1 dX3_tuneRest_27 ?_
      refine toe (z := nI (O ^^^ (O &&& 2 ^ w))) (nI_andnot _ _) ?_
      refine lv_istore (lv' := [(4, .int (nI (O ^^^ (O &&& 2 ^ w)))), (3, .int (nI w)), (0, .ref (a 39)), (1, .int (nI O)), (2, .int (nI 7))]) hz.1 hz.2.1 dX3_tuneRest_28 hl (by decide) rfl (fun ls hl => ?_)
      refine lv_aload_n hz.1 hz.2.1 dX3_tuneRest_30 rfl (lv_at hl 2 rfl) ?_
      refine rg (T := TX3) (N := 5) hz hinX3_tuneRest_X3 hK hP 0 rfl rfl 3 (by decide) (List.mem_of_getElem? (i := 1) rfl) rfl (v := .ref (a 43)) rfl dX3_tuneRest_31 ?_
      refine lv_iload_n hz.1 hz.2.1 dX3_tuneRest_34 rfl (lv_at hl 4 rfl) ?_
      refine rald4 hz hK hP 4 rfl (i := 7) (v := a 51) (by omega) (by decide) (if_pos (by omega)) dX3_tuneRest_35 ?_
      refine lv_iload_n hz.1 hz.2.1 dX3_tuneRest_36 rfl (lv_at hl 1 rfl) ?_
      refine rald hz hK hP 12 0 rfl rfl (i := w) (by omega) (by decide) (v := nI (Ch 7 w)) rfl dX3_tuneRest_37 ?_
      have c1 := hC 7 w
      refine lv_istore (lv' := [(5, .int (nI (Ch 7 w))), (4, .int (nI (O ^^^ (O &&& 2 ^ w)))), (3, .int (nI w)), (0, .ref (a 39)), (1, .int (nI O)), (2, .int (nI 7))]) hz.1 hz.2.1 dX3_tuneRest_38 hl (by decide) rfl (fun ls hl => ?_)
      have jn_54 : ∀ (tr : Nat), (kTr Mt Sl (Ch 7) O w tr) → ∀ ls : Array Slot, lv_has ls 8 [(0, .ref (a 39)), (1, .int (nI O)), (2, .int (nI 7)), (3, .int (nI w)), (4, .int (nI (O ^^^ (O &&& 2 ^ w)))), (5, .int (nI (Ch 7 w)))] → W p_ l_ e_ ({ frames := 2, cells := 0, slots := 0, locals := 51 }) s_ m_ [.ref (a 39), .int (nI O), .int (nI 7)].toArray bl_ me_ c_ s_.heap [] 0 0 (MQ bl_ (va_Qi (fun (r : Int32) (u : Nat → Nat → Nat) => r = bI (kSolB Mt Sl O (Ch 7)) ∧ (∀ i, i ≤ 7 → u i = Ch i) ∧ (∀ i v, u i v < 4096)) (fun (u : Nat → Nat → Nat) (t_ : State) => va_P D vwCl ((fun (u : Nat → Nat → Nat) => tu a k Y Nt Sl Mt u) u) t_.heap) (wA (tu a k Y Nt Sl Mt Ch))) [.ref (a 39), .int (nI O), .int (nI 7)].toArray s_ 0 0 (wA (tu a k Y Nt Sl Mt Ch))) (F0 m_ 54 ls [.int (nI tr)]) := by
        intro tr htr ls hl
        refine lv_istore (lv' := [(6, .int (nI tr)), (0, .ref (a 39)), (1, .int (nI O)), (2, .int (nI 7)), (3, .int (nI w)), (4, .int (nI (O ^^^ (O &&& 2 ^ w)))), (5, .int (nI (Ch 7 w)))]) hz.1 hz.2.1 dX3_tuneRest_54 hl (by decide) rfl (fun ls hl => ?_)
        refine lv_iconst (v := nI 0) hz.1 hz.2.1 dX3_tuneRest_56 (by decide) ?_
        refine lv_istore (lv' := [(7, .int (nI 0)), (6, .int (nI tr)), (0, .ref (a 39)), (1, .int (nI O)), (2, .int (nI 7)), (3, .int (nI w)), (4, .int (nI (O ^^^ (O &&& 2 ^ w)))), (5, .int (nI (Ch 7 w)))]) hz.1 hz.2.1 dX3_tuneRest_57 hl (by decide) rfl (fun ls hl => ?_)
        have lp_59 : ∀ (fu : Nat) (nt : Nat) (Cv : Nat → Nat → Nat), (nt ≤ 12) → (∀ i, i ≤ 7 → Cv i = Ch i) → (∀ i v, Cv i v < 4096) → (∀ b, b < nt → tr.testBit b = true → ¬ kSol Mt Sl (O ^^^ (O &&& 2 ^ w)) (kNw Mt Sl (Ch 7) w b)) → 12 - nt < fu → ∀ ls : Array Slot, ∀ (H : Heap) (locs : List Loc), va_P D vwCl (tu a k Y Nt Sl Mt Cv) H → va_S (wA (tu a k Y Nt Sl Mt Ch)) s_.heap H locs → lv_has ls 8 [(0, .ref (a 39)), (1, .int (nI O)), (2, .int (nI 7)), (3, .int (nI w)), (4, .int (nI (O ^^^ (O &&& 2 ^ w)))), (5, .int (nI (Ch 7 w))), (6, .int (nI tr)), (7, .int (nI nt))] → W p_ l_ e_ ({ frames := 2, cells := 0, slots := 0, locals := 51 }) s_ m_ [.ref (a 39), .int (nI O), .int (nI 7)].toArray bl_ me_ c_ H locs 0 0 (MQ bl_ (va_Qi (fun (r : Int32) (u : Nat → Nat → Nat) => r = bI (kSolB Mt Sl O (Ch 7)) ∧ (∀ i, i ≤ 7 → u i = Ch i) ∧ (∀ i v, u i v < 4096)) (fun (u : Nat → Nat → Nat) (t_ : State) => va_P D vwCl ((fun (u : Nat → Nat → Nat) => tu a k Y Nt Sl Mt u) u) t_.heap) (wA (tu a k Y Nt Sl Mt Ch))) [.ref (a 39), .int (nI O), .int (nI 7)].toArray s_ 0 0 (wA (tu a k Y Nt Sl Mt Ch))) (F0 m_ 59 ls []) := by
          intro fu
          induction fu with
          | zero => intro nt Cv hnt hCv hCb hno hm; exact absurd hm (Nat.not_lt_zero _)
          | succ fu ih59 =>
            intro nt Cv hnt hCv hCb hno hm ls H locs hP hS hl
            have hD : va_D (wA (tu a k Y Nt Sl Mt Ch)) (tu a k Y Nt Sl Mt Cv) := hD.same rfl
            refine lv_iload hz.1 hz.2.1 dX3_tuneRest_59 (lv_at hl 7 rfl) ?_
            refine lv_bipush (v := nI 12) hz.1 hz.2.1 dX3_tuneRest_61 (by decide) ?_
            refine jge (tgt := 109) hz dX3_tuneRest_63 (by decide) (by omega) (by omega) (fun c_63 => ?_) (fun c_63 => ?_)
            · obtain rfl : nt = 12 := by omega
              refine lv_iconst (v := nI 0) hz.1 hz.2.1 dX3_tuneRest_109 (by decide) ?_
              exact wr_zret hz hr hlk dX3_tuneRest_110 hS (bI_0 (tr_end htr (fun b hb => hno b (by omega)))) Cv hP (⟨rfl, hCv, hCb⟩)
            · have t1 := htr.1
              have r1 : (O ^^^ (O &&& 2 ^ w)) < 256 := Nat.lt_of_le_of_lt (andnot_le _ _) o1
              refine lv_iload hz.1 hz.2.1 dX3_tuneRest_66 (lv_at hl 6 rfl) ?_
              refine lv_iload hz.1 hz.2.1 dX3_tuneRest_68 (lv_at hl 7 rfl) ?_
              refine rdSN (n := 2) (As := [.int (nI tr), .int (nI nt)]) (rest := []) hz (c5_has l_ tr nt (by omega) (by omega)) rfl gX3_tuneRest_X5_has_n68 rfl ⟨rfl, rfl⟩ hy (List.mem_of_getElem? (i := 6) rfl) (List.mem_of_getElem? (i := 15) rfl) (List.mem_of_getElem? (i := 14) rfl) (by decide +kernel) ⟨Nat.le_of_ble_eq_true rfl, Nat.le_of_ble_eq_true rfl⟩ rfl hl.1 rfl (Nat.le_of_ble_eq_true rfl) dX3_tuneRest_70 ⟨Nat.zero_le _, Nat.zero_le _⟩ ?_
              refine zeq (tgt := 103) hz dX3_tuneRest_73 (by decide) (fun c_73 => ?_) (fun c_73 => ?_)
              · refine lv_iinc (v := nI (nt + 1)) (lv' := [(7, .int (nI (nt + 1))), (0, .ref (a 39)), (1, .int (nI O)), (2, .int (nI 7)), (3, .int (nI w)), (4, .int (nI (O ^^^ (O &&& 2 ^ w)))), (5, .int (nI (Ch 7 w))), (6, .int (nI tr))]) hz.1 hz.2.1 dX3_tuneRest_103 hl (k := 7) rfl (nI_add _ 1) (by decide) rfl (fun ls hl => ?_)
                refine lv_goto (tgt := 59) hz.1 hz.2.1 dX3_tuneRest_106 (by decide) ?_
                exact ih59 (nt + 1) Cv (by omega) (hCv) (hCb) (fun b hb ht => by rcases Nat.lt_or_ge b nt with q | q; exact hno b q ht; rw [show b = nt by omega] at ht; exact absurd (c_73.symm.trans ht) (by decide)) (by omega) ls H locs hP hS (lv_sub hl [1, 2, 3, 4, 5, 6, 7, 0] rfl)
              · refine lv_aload_n hz.1 hz.2.1 dX3_tuneRest_76 rfl (lv_at hl 0 rfl) ?_
                refine lv_iload_n hz.1 hz.2.1 dX3_tuneRest_77 rfl (lv_at hl 3 rfl) ?_
                refine lv_iload hz.1 hz.2.1 dX3_tuneRest_78 (lv_at hl 7 rfl) ?_
                refine lv_iload hz.1 hz.2.1 dX3_tuneRest_80 (lv_at hl 4 rfl) ?_
                refine lv_iload_n hz.1 hz.2.1 dX3_tuneRest_82 rfl (lv_at hl 2 rfl) ?_
                refine wrV (A := wA (tu a k Y Nt Sl Mt Ch)) (As := [.int (nI w), .int (nI nt), .int (nI (O ^^^ (O &&& 2 ^ w))), .int (nI 7)]) (rest := []) hz (okAm tS sk sv) (c3_narrows l_ D k a tS sk sv Y Nt Sl Mt Cv w nt (O ^^^ (O &&& 2 ^ w)) 7 w8 (by omega) r1 (by decide) hs (hH.2.2.1 w w8 wO) hCb) (cwV 4 hz.2.2.2.2 gX3_tuneRest_X3_narrows rfl rfl rfl (by decide +kernel) ⟨Nat.le_of_ble_eq_true rfl, Nat.le_of_ble_eq_true rfl⟩) hK hy hP hD hS 0 3 rfl rfl rfl rfl hl.1 rfl (Nat.le_of_ble_eq_true rfl) dX3_tuneRest_83 ⟨Nat.zero_le _, Nat.zero_le _⟩ (fun r u H1 locs hp hP1 hS hfr => ?_)
                obtain ⟨u1, hren_⟩ : ∃ z_, z_ = u := ⟨u, rfl⟩
                subst hren_
                obtain ⟨h1, h2, h3⟩ := hp
                have eD : Cv 7 = Ch 7 := hCv 7 (Nat.le_refl _)
                rw [eD] at h1 h3
                obtain rfl : r = bI (sAll (kNB Mt Sl (Ch 7) (O ^^^ (O &&& 2 ^ w)) w nt) 8) := h1
                have hP : va_P D vwCl (tu a k Y Nt Sl Mt (gset Cv 8 u1)) H1 := hP1
                generalize H1 = H at hP hS ⊢
                have hD : va_D (wA (tu a k Y Nt Sl Mt Ch)) (tu a k Y Nt Sl Mt (gset Cv 8 u1)) := hD.same rfl
                refine zeq (tgt := 103) hz dX3_tuneRest_86 (by decide) (fun c_86 => ?_) (fun c_86 => ?_)
                · refine lv_iinc (v := nI (nt + 1)) (lv' := [(7, .int (nI (nt + 1))), (0, .ref (a 39)), (1, .int (nI O)), (2, .int (nI 7)), (3, .int (nI w)), (4, .int (nI (O ^^^ (O &&& 2 ^ w)))), (5, .int (nI (Ch 7 w))), (6, .int (nI tr))]) hz.1 hz.2.1 dX3_tuneRest_103 hl (k := 7) rfl (nI_add _ 1) (by decide) rfl (fun ls hl => ?_)
                  refine lv_goto (tgt := 59) hz.1 hz.2.1 dX3_tuneRest_106 (by decide) ?_
                  exact ih59 (nt + 1) (gset Cv 8 u1) (by omega) (fun i hi => (gset_ne _ _ (by omega)).trans (hCv i hi)) (gset_lt hCb h2) (fun b hb ht => by rcases Nat.lt_or_ge b nt with q | q; exact hno b q ht; rw [show b = nt by omega]; exact kNB_ok c_86) (by omega) ls H locs hP hS (lv_sub hl [1, 2, 3, 4, 5, 6, 7, 0] rfl)
                · refine lv_aload_n hz.1 hz.2.1 dX3_tuneRest_89 rfl (lv_at hl 0 rfl) ?_
                  refine lv_iload hz.1 hz.2.1 dX3_tuneRest_90 (lv_at hl 4 rfl) ?_
                  refine lv_iload_n hz.1 hz.2.1 dX3_tuneRest_92 rfl (lv_at hl 2 rfl) ?_
                  refine lv_iconst (v := nI 1) hz.1 hz.2.1 dX3_tuneRest_93 (by decide) ?_
                  refine lv_iadd hz.1 hz.2.1 dX3_tuneRest_94 ?_
                  refine toe (z := nI 8) (rfl) ?_
                  refine wrV (A := wA (tu a k Y Nt Sl Mt Ch)) (As := [.int (nI (O ^^^ (O &&& 2 ^ w))), .int (nI 8)]) (rest := []) hz (okAm tS sk sv) (c3_tuneRest_8 l_ D k a tS sk sv Y Nt Sl Mt (gset Cv 8 u1) (O ^^^ (O &&& 2 ^ w)) hH.rest hs (gset_lt hCb h2) (by have := rest_pop o1 w8 wO; omega)) (cwV 2 hz.2.2.2.2 gX3_tuneRest_X3_tuneRest rfl rfl rfl (by decide +kernel) ⟨Nat.le_of_ble_eq_true rfl, Nat.le_of_ble_eq_true rfl⟩) hK hy hP hD hS 0 3 rfl rfl rfl rfl hl.1 rfl (Nat.le_of_ble_eq_true rfl) dX3_tuneRest_95 ⟨Nat.zero_le _, Nat.zero_le _⟩ (fun r u H1 locs hp hP1 hS hfr => ?_)
                  obtain ⟨u2, hren_⟩ : ∃ z_, z_ = u := ⟨u, rfl⟩
                  subst hren_
                  obtain ⟨g1, g2, g3⟩ := hp
                  have e5 : kSolB Mt Sl (O ^^^ (O &&& 2 ^ w)) (gset Cv 8 u1 8) = kSolB Mt Sl (O ^^^ (O &&& 2 ^ w)) (kNw Mt Sl (Ch 7) w nt) := solB_eq (fun v hv ho => by rw [gset_same, h3 c_86, kNr_8 hv ho])
                  rw [e5] at g1
                  obtain rfl : r = bI (kSolB Mt Sl (O ^^^ (O &&& 2 ^ w)) (kNw Mt Sl (Ch 7) w nt)) := g1
                  have hP : va_P D vwCl (tu a k Y Nt Sl Mt u2) H1 := hP1
                  generalize H1 = H at hP hS ⊢
                  have hD : va_D (wA (tu a k Y Nt Sl Mt Ch)) (tu a k Y Nt Sl Mt u2) := hD.same rfl
                  refine zeq (tgt := 103) hz dX3_tuneRest_98 (by decide) (fun c_98 => ?_) (fun c_98 => ?_)
                  · refine lv_iinc (v := nI (nt + 1)) (lv' := [(7, .int (nI (nt + 1))), (0, .ref (a 39)), (1, .int (nI O)), (2, .int (nI 7)), (3, .int (nI w)), (4, .int (nI (O ^^^ (O &&& 2 ^ w)))), (5, .int (nI (Ch 7 w))), (6, .int (nI tr))]) hz.1 hz.2.1 dX3_tuneRest_103 hl (k := 7) rfl (nI_add _ 1) (by decide) rfl (fun ls hl => ?_)
                    refine lv_goto (tgt := 59) hz.1 hz.2.1 dX3_tuneRest_106 (by decide) ?_
                    exact ih59 (nt + 1) u2 (by omega) (fun i hi => (g2 i (by omega)).trans ((gset_ne _ _ (by omega)).trans (hCv i hi))) (g3) (fun b hb ht => by rcases Nat.lt_or_ge b nt with q | q; exact hno b q ht; rw [show b = nt by omega]; exact kSolB_f.mp c_98) (by omega) ls H locs hP hS (lv_sub hl [1, 2, 3, 4, 5, 6, 7, 0] rfl)
                  · refine lv_iconst (v := nI 1) hz.1 hz.2.1 dX3_tuneRest_101 (by decide) ?_
                    exact wr_zret hz hr hlk dX3_tuneRest_102 hS (bI_1 (tr_hit hH w8 wO htr c_63 c_73 (kSolB_t.mp c_98))) u2 hP (⟨rfl, fun i hi => (g2 i (by omega)).trans ((gset_ne _ _ (by omega)).trans (hCv i hi)), g3⟩)
        exact lp_59 _ 0 Ch (by omega) (fun _ _ => rfl) (hC) (fun b hb => absurd hb (Nat.not_lt_zero b)) (Nat.lt_succ_self _) ls _ _ hP hS (lv_sub hl [2, 3, 4, 5, 6, 7, 1, 0] rfl)
      refine lv_iload hz.1 hz.2.1 dX3_tuneRest_40 (lv_at hl 0 rfl) ?_
      refine lv_sipush (v := nI 4095) hz.1 hz.2.1 dX3_tuneRest_42 (by decide) ?_
      refine jne (tgt := 52) hz dX3_tuneRest_45 (by decide) (by omega) (by omega) (fun c_45 => ?_) (fun c_45 => ?_)
      · refine lv_iload hz.1 hz.2.1 dX3_tuneRest_52 (lv_at hl 0 rfl) ?_
        exact jn_54 (Ch 7 w) (kTr_left hH (hC 7 w) w8 wO) ls (lv_sub hl [3, 4, 5, 2, 1, 0] rfl)
      · refine lv_iconst (v := nI 1) hz.1 hz.2.1 dX3_tuneRest_48 (by decide) ?_
        refine lv_goto (tgt := 54) hz.1 hz.2.1 dX3_tuneRest_49 (by decide) ?_
        exact jn_54 1 (kTr_one hH (hC 7) w8 wO wmin c_45) ls (lv_sub hl [3, 4, 5, 2, 1, 0] rfl)
    · exact absurd (by decide) c_9
  · refine lv_iconst (v := nI 1) hz.1 hz.2.1 dX3_tuneRest_4 (by decide) ?_
    exact wr_zret hz hr hlk dX3_tuneRest_5 hS (bI_1 (by rw [c_1]; exact kSolB_t.mpr kSol_0)) Ch hP (⟨rfl, fun _ _ => rfl, hC⟩)

set_option maxHeartbeats 4000000 in
set_option maxRecDepth 100000 in
theorem c3_tuneRest_6 (l_ : Launch) (D : va_G) (k : Nat → ClassId) (a : Nat → Nat) (tS : Nat) (sk sv : Nat → Nat) (Y : Nat → Nat) (Nt : Nat → Nat) (Sl : Nat → Nat) (Mt : Nat → Nat) (Ch : Nat → Nat → Nat) (O : Nat) (hH : kHyp Mt Sl O) (hs : ∀ v, Sl v < 2) (hC : ∀ i v, Ch i v < 4096) (hp0 : sPop O + 6 ≤ 8) : Met l_ yX3_tuneRest wsX3_tuneRest ({ frames := 3, cells := 0, slots := 0, locals := 78 }) (va_Pc [.ref (a 39), .int (nI O), .int (nI 6)] (wH (Am tS sk sv) D k (tu a k Y Nt Sl Mt Ch))) (va_Qi (fun (r : Int32) (u : Nat → Nat → Nat) => r = bI (kSolB Mt Sl O (Ch 6)) ∧ (∀ i, i ≤ 6 → u i = Ch i) ∧ (∀ i v, u i v < 4096)) (fun (u : Nat → Nat → Nat) (t_ : State) => va_P D vwCl ((fun (u : Nat → Nat → Nat) => tu a k Y Nt Sl Mt u) u) t_.heap) (wA (tu a k Y Nt Sl Mt Ch))) 0 0 (wA (tu a k Y Nt Sl Mt Ch)) := by
  refine my_entry (cc := cX3_tuneRest) (maxL := 8) (ret := some .boolean) (by decide) rfl (Nat.le_of_ble_eq_true rfl) ?_
  intro p_ e_ s_ m_ bl_ me_ c_ hz hr hlk hB ls hl
  obtain ⟨hP, hK, hD0, hy⟩ := hB
  have hD := wA.self hD0
  have hS : va_S (wA (tu a k Y Nt Sl Mt Ch)) s_.heap s_.heap [] := va_S.rf
  have hl : lv_has ls 8 [(0, .ref (a 39)), (1, .int (nI O)), (2, .int (nI 6))] := hl
  have o1 := hH.1
  refine lv_iload_n hz.1 hz.2.1 dX3_tuneRest_0 rfl (lv_at hl 1 rfl) ?_
  refine jne0 (tgt := 6) hz dX3_tuneRest_1 (by decide) (by omega) (fun c_1 => ?_) (fun c_1 => ?_)
  · refine lv_iload_n hz.1 hz.2.1 dX3_tuneRest_6 rfl (lv_at hl 2 rfl) ?_
    refine lv_bipush (v := nI 8) hz.1 hz.2.1 dX3_tuneRest_7 (by decide) ?_
    refine jlt (tgt := 14) hz dX3_tuneRest_9 (by decide) (by omega) (by omega) (fun c_9 => ?_) (fun c_9 => ?_)
    · refine lv_aload_n hz.1 hz.2.1 dX3_tuneRest_14 rfl (lv_at hl 0 rfl) ?_
      refine lv_iload_n hz.1 hz.2.1 dX3_tuneRest_15 rfl (lv_at hl 1 rfl) ?_
      refine lv_iload_n hz.1 hz.2.1 dX3_tuneRest_16 rfl (lv_at hl 2 rfl) ?_
      refine rdV (A := wA (tu a k Y Nt Sl Mt Ch)) (As := [.int (nI O), .int (nI 6)]) (rest := []) hz (okAm tS sk sv) (c3_mostBound l_ D k a tS sk sv Y Nt Sl Mt Ch O 6 o1 (by decide) hC) (cwV 2 hz.2.2.2.2 gX3_tuneRest_X3_mostBound rfl rfl rfl (by decide +kernel) ⟨Nat.le_of_ble_eq_true rfl, Nat.le_of_ble_eq_true rfl⟩) hK hy hP hD hS 0 3 rfl rfl rfl rfl hl.1 rfl (Nat.le_of_ble_eq_true rfl) dX3_tuneRest_17 ⟨Nat.zero_le _, Nat.zero_le _⟩ ?_
      have mb := kMb_end o1 c_1 (fun w _ => hC 6 w)
      generalize (kMb O (Ch 6) 8).1 = w at mb ⊢
      obtain ⟨w8, wO, wmin⟩ := mb
      refine lv_istore_n (lv' := [(3, .int (nI w)), (0, .ref (a 39)), (1, .int (nI O)), (2, .int (nI 6))]) hz.1 hz.2.1 dX3_tuneRest_20 rfl hl (by decide) rfl (fun ls hl => ?_)
      refine lv_iload_n hz.1 hz.2.1 dX3_tuneRest_21 rfl (lv_at hl 2 rfl) ?_
      refine lv_iconst (v := nI 1) hz.1 hz.2.1 dX3_tuneRest_22 (by decide) ?_
      refine lv_iload_n hz.1 hz.2.1 dX3_tuneRest_23 rfl (lv_at hl 0 rfl) ?_
      refine lv_ishl hz.1 hz.2.1 dX3_tuneRest_24 ?_
      refine toe (z := nI (2 ^ w)) (nI_shl1 (by omega)) ?_
      refine lv_iconst (v := (-1)) hz.1 hz.2.1 dX3_tuneRest_25 (by decide) ?_
      refine lv_ixor hz.1 hz.2.1 dX3_tuneRest_26 ?_
      refine lv_iand hz.1 hz.2.1 dX3_tuneRest_27 ?_
      refine toe (z := nI (O ^^^ (O &&& 2 ^ w))) (nI_andnot _ _) ?_
      refine lv_istore (lv' := [(4, .int (nI (O ^^^ (O &&& 2 ^ w)))), (3, .int (nI w)), (0, .ref (a 39)), (1, .int (nI O)), (2, .int (nI 6))]) hz.1 hz.2.1 dX3_tuneRest_28 hl (by decide) rfl (fun ls hl => ?_)
      refine lv_aload_n hz.1 hz.2.1 dX3_tuneRest_30 rfl (lv_at hl 2 rfl) ?_
      refine rg (T := TX3) (N := 5) hz hinX3_tuneRest_X3 hK hP 0 rfl rfl 3 (by decide) (List.mem_of_getElem? (i := 1) rfl) rfl (v := .ref (a 43)) rfl dX3_tuneRest_31 ?_
      refine lv_iload_n hz.1 hz.2.1 dX3_tuneRest_34 rfl (lv_at hl 4 rfl) ?_
      refine rald4 hz hK hP 4 rfl (i := 6) (v := a 50) (by omega) (by decide) (if_pos (by omega)) dX3_tuneRest_35 ?_
      refine lv_iload_n hz.1 hz.2.1 dX3_tuneRest_36 rfl (lv_at hl 1 rfl) ?_
      refine rald hz hK hP 11 0 rfl rfl (i := w) (by omega) (by decide) (v := nI (Ch 6 w)) rfl dX3_tuneRest_37 ?_
      have c1 := hC 6 w
      refine lv_istore (lv' := [(5, .int (nI (Ch 6 w))), (4, .int (nI (O ^^^ (O &&& 2 ^ w)))), (3, .int (nI w)), (0, .ref (a 39)), (1, .int (nI O)), (2, .int (nI 6))]) hz.1 hz.2.1 dX3_tuneRest_38 hl (by decide) rfl (fun ls hl => ?_)
      have jn_54 : ∀ (tr : Nat), (kTr Mt Sl (Ch 6) O w tr) → ∀ ls : Array Slot, lv_has ls 8 [(0, .ref (a 39)), (1, .int (nI O)), (2, .int (nI 6)), (3, .int (nI w)), (4, .int (nI (O ^^^ (O &&& 2 ^ w)))), (5, .int (nI (Ch 6 w)))] → W p_ l_ e_ ({ frames := 3, cells := 0, slots := 0, locals := 78 }) s_ m_ [.ref (a 39), .int (nI O), .int (nI 6)].toArray bl_ me_ c_ s_.heap [] 0 0 (MQ bl_ (va_Qi (fun (r : Int32) (u : Nat → Nat → Nat) => r = bI (kSolB Mt Sl O (Ch 6)) ∧ (∀ i, i ≤ 6 → u i = Ch i) ∧ (∀ i v, u i v < 4096)) (fun (u : Nat → Nat → Nat) (t_ : State) => va_P D vwCl ((fun (u : Nat → Nat → Nat) => tu a k Y Nt Sl Mt u) u) t_.heap) (wA (tu a k Y Nt Sl Mt Ch))) [.ref (a 39), .int (nI O), .int (nI 6)].toArray s_ 0 0 (wA (tu a k Y Nt Sl Mt Ch))) (F0 m_ 54 ls [.int (nI tr)]) := by
        intro tr htr ls hl
        refine lv_istore (lv' := [(6, .int (nI tr)), (0, .ref (a 39)), (1, .int (nI O)), (2, .int (nI 6)), (3, .int (nI w)), (4, .int (nI (O ^^^ (O &&& 2 ^ w)))), (5, .int (nI (Ch 6 w)))]) hz.1 hz.2.1 dX3_tuneRest_54 hl (by decide) rfl (fun ls hl => ?_)
        refine lv_iconst (v := nI 0) hz.1 hz.2.1 dX3_tuneRest_56 (by decide) ?_
        refine lv_istore (lv' := [(7, .int (nI 0)), (6, .int (nI tr)), (0, .ref (a 39)), (1, .int (nI O)), (2, .int (nI 6)), (3, .int (nI w)), (4, .int (nI (O ^^^ (O &&& 2 ^ w)))), (5, .int (nI (Ch 6 w)))]) hz.1 hz.2.1 dX3_tuneRest_57 hl (by decide) rfl (fun ls hl => ?_)
        have lp_59 : ∀ (fu : Nat) (nt : Nat) (Cv : Nat → Nat → Nat), (nt ≤ 12) → (∀ i, i ≤ 6 → Cv i = Ch i) → (∀ i v, Cv i v < 4096) → (∀ b, b < nt → tr.testBit b = true → ¬ kSol Mt Sl (O ^^^ (O &&& 2 ^ w)) (kNw Mt Sl (Ch 6) w b)) → 12 - nt < fu → ∀ ls : Array Slot, ∀ (H : Heap) (locs : List Loc), va_P D vwCl (tu a k Y Nt Sl Mt Cv) H → va_S (wA (tu a k Y Nt Sl Mt Ch)) s_.heap H locs → lv_has ls 8 [(0, .ref (a 39)), (1, .int (nI O)), (2, .int (nI 6)), (3, .int (nI w)), (4, .int (nI (O ^^^ (O &&& 2 ^ w)))), (5, .int (nI (Ch 6 w))), (6, .int (nI tr)), (7, .int (nI nt))] → W p_ l_ e_ ({ frames := 3, cells := 0, slots := 0, locals := 78 }) s_ m_ [.ref (a 39), .int (nI O), .int (nI 6)].toArray bl_ me_ c_ H locs 0 0 (MQ bl_ (va_Qi (fun (r : Int32) (u : Nat → Nat → Nat) => r = bI (kSolB Mt Sl O (Ch 6)) ∧ (∀ i, i ≤ 6 → u i = Ch i) ∧ (∀ i v, u i v < 4096)) (fun (u : Nat → Nat → Nat) (t_ : State) => va_P D vwCl ((fun (u : Nat → Nat → Nat) => tu a k Y Nt Sl Mt u) u) t_.heap) (wA (tu a k Y Nt Sl Mt Ch))) [.ref (a 39), .int (nI O), .int (nI 6)].toArray s_ 0 0 (wA (tu a k Y Nt Sl Mt Ch))) (F0 m_ 59 ls []) := by
          intro fu
          induction fu with
          | zero => intro nt Cv hnt hCv hCb hno hm; exact absurd hm (Nat.not_lt_zero _)
          | succ fu ih59 =>
            intro nt Cv hnt hCv hCb hno hm ls H locs hP hS hl
            have hD : va_D (wA (tu a k Y Nt Sl Mt Ch)) (tu a k Y Nt Sl Mt Cv) := hD.same rfl
            refine lv_iload hz.1 hz.2.1 dX3_tuneRest_59 (lv_at hl 7 rfl) ?_
            refine lv_bipush (v := nI 12) hz.1 hz.2.1 dX3_tuneRest_61 (by decide) ?_
            refine jge (tgt := 109) hz dX3_tuneRest_63 (by decide) (by omega) (by omega) (fun c_63 => ?_) (fun c_63 => ?_)
            · obtain rfl : nt = 12 := by omega
              refine lv_iconst (v := nI 0) hz.1 hz.2.1 dX3_tuneRest_109 (by decide) ?_
              exact wr_zret hz hr hlk dX3_tuneRest_110 hS (bI_0 (tr_end htr (fun b hb => hno b (by omega)))) Cv hP (⟨rfl, hCv, hCb⟩)
            · have t1 := htr.1
              have r1 : (O ^^^ (O &&& 2 ^ w)) < 256 := Nat.lt_of_le_of_lt (andnot_le _ _) o1
              refine lv_iload hz.1 hz.2.1 dX3_tuneRest_66 (lv_at hl 6 rfl) ?_
              refine lv_iload hz.1 hz.2.1 dX3_tuneRest_68 (lv_at hl 7 rfl) ?_
              refine rdSN (n := 2) (As := [.int (nI tr), .int (nI nt)]) (rest := []) hz (c5_has l_ tr nt (by omega) (by omega)) rfl gX3_tuneRest_X5_has_n68 rfl ⟨rfl, rfl⟩ hy (List.mem_of_getElem? (i := 6) rfl) (List.mem_of_getElem? (i := 15) rfl) (List.mem_of_getElem? (i := 14) rfl) (by decide +kernel) ⟨Nat.le_of_ble_eq_true rfl, Nat.le_of_ble_eq_true rfl⟩ rfl hl.1 rfl (Nat.le_of_ble_eq_true rfl) dX3_tuneRest_70 ⟨Nat.zero_le _, Nat.zero_le _⟩ ?_
              refine zeq (tgt := 103) hz dX3_tuneRest_73 (by decide) (fun c_73 => ?_) (fun c_73 => ?_)
              · refine lv_iinc (v := nI (nt + 1)) (lv' := [(7, .int (nI (nt + 1))), (0, .ref (a 39)), (1, .int (nI O)), (2, .int (nI 6)), (3, .int (nI w)), (4, .int (nI (O ^^^ (O &&& 2 ^ w)))), (5, .int (nI (Ch 6 w))), (6, .int (nI tr))]) hz.1 hz.2.1 dX3_tuneRest_103 hl (k := 7) rfl (nI_add _ 1) (by decide) rfl (fun ls hl => ?_)
                refine lv_goto (tgt := 59) hz.1 hz.2.1 dX3_tuneRest_106 (by decide) ?_
                exact ih59 (nt + 1) Cv (by omega) (hCv) (hCb) (fun b hb ht => by rcases Nat.lt_or_ge b nt with q | q; exact hno b q ht; rw [show b = nt by omega] at ht; exact absurd (c_73.symm.trans ht) (by decide)) (by omega) ls H locs hP hS (lv_sub hl [1, 2, 3, 4, 5, 6, 7, 0] rfl)
              · refine lv_aload_n hz.1 hz.2.1 dX3_tuneRest_76 rfl (lv_at hl 0 rfl) ?_
                refine lv_iload_n hz.1 hz.2.1 dX3_tuneRest_77 rfl (lv_at hl 3 rfl) ?_
                refine lv_iload hz.1 hz.2.1 dX3_tuneRest_78 (lv_at hl 7 rfl) ?_
                refine lv_iload hz.1 hz.2.1 dX3_tuneRest_80 (lv_at hl 4 rfl) ?_
                refine lv_iload_n hz.1 hz.2.1 dX3_tuneRest_82 rfl (lv_at hl 2 rfl) ?_
                refine wrV (A := wA (tu a k Y Nt Sl Mt Ch)) (As := [.int (nI w), .int (nI nt), .int (nI (O ^^^ (O &&& 2 ^ w))), .int (nI 6)]) (rest := []) hz (okAm tS sk sv) (c3_narrows l_ D k a tS sk sv Y Nt Sl Mt Cv w nt (O ^^^ (O &&& 2 ^ w)) 6 w8 (by omega) r1 (by decide) hs (hH.2.2.1 w w8 wO) hCb) (cwV 4 hz.2.2.2.2 gX3_tuneRest_X3_narrows rfl rfl rfl (by decide +kernel) ⟨Nat.le_of_ble_eq_true rfl, Nat.le_of_ble_eq_true rfl⟩) hK hy hP hD hS 0 3 rfl rfl rfl rfl hl.1 rfl (Nat.le_of_ble_eq_true rfl) dX3_tuneRest_83 ⟨Nat.zero_le _, Nat.zero_le _⟩ (fun r u H1 locs hp hP1 hS hfr => ?_)
                obtain ⟨u1, hren_⟩ : ∃ z_, z_ = u := ⟨u, rfl⟩
                subst hren_
                obtain ⟨h1, h2, h3⟩ := hp
                have eD : Cv 6 = Ch 6 := hCv 6 (Nat.le_refl _)
                rw [eD] at h1 h3
                obtain rfl : r = bI (sAll (kNB Mt Sl (Ch 6) (O ^^^ (O &&& 2 ^ w)) w nt) 8) := h1
                have hP : va_P D vwCl (tu a k Y Nt Sl Mt (gset Cv 7 u1)) H1 := hP1
                generalize H1 = H at hP hS ⊢
                have hD : va_D (wA (tu a k Y Nt Sl Mt Ch)) (tu a k Y Nt Sl Mt (gset Cv 7 u1)) := hD.same rfl
                refine zeq (tgt := 103) hz dX3_tuneRest_86 (by decide) (fun c_86 => ?_) (fun c_86 => ?_)
                · refine lv_iinc (v := nI (nt + 1)) (lv' := [(7, .int (nI (nt + 1))), (0, .ref (a 39)), (1, .int (nI O)), (2, .int (nI 6)), (3, .int (nI w)), (4, .int (nI (O ^^^ (O &&& 2 ^ w)))), (5, .int (nI (Ch 6 w))), (6, .int (nI tr))]) hz.1 hz.2.1 dX3_tuneRest_103 hl (k := 7) rfl (nI_add _ 1) (by decide) rfl (fun ls hl => ?_)
                  refine lv_goto (tgt := 59) hz.1 hz.2.1 dX3_tuneRest_106 (by decide) ?_
                  exact ih59 (nt + 1) (gset Cv 7 u1) (by omega) (fun i hi => (gset_ne _ _ (by omega)).trans (hCv i hi)) (gset_lt hCb h2) (fun b hb ht => by rcases Nat.lt_or_ge b nt with q | q; exact hno b q ht; rw [show b = nt by omega]; exact kNB_ok c_86) (by omega) ls H locs hP hS (lv_sub hl [1, 2, 3, 4, 5, 6, 7, 0] rfl)
                · refine lv_aload_n hz.1 hz.2.1 dX3_tuneRest_89 rfl (lv_at hl 0 rfl) ?_
                  refine lv_iload hz.1 hz.2.1 dX3_tuneRest_90 (lv_at hl 4 rfl) ?_
                  refine lv_iload_n hz.1 hz.2.1 dX3_tuneRest_92 rfl (lv_at hl 2 rfl) ?_
                  refine lv_iconst (v := nI 1) hz.1 hz.2.1 dX3_tuneRest_93 (by decide) ?_
                  refine lv_iadd hz.1 hz.2.1 dX3_tuneRest_94 ?_
                  refine toe (z := nI 7) (rfl) ?_
                  refine wrV (A := wA (tu a k Y Nt Sl Mt Ch)) (As := [.int (nI (O ^^^ (O &&& 2 ^ w))), .int (nI 7)]) (rest := []) hz (okAm tS sk sv) (c3_tuneRest_7 l_ D k a tS sk sv Y Nt Sl Mt (gset Cv 7 u1) (O ^^^ (O &&& 2 ^ w)) hH.rest hs (gset_lt hCb h2) (by have := rest_pop o1 w8 wO; omega)) (cwV 2 hz.2.2.2.2 gX3_tuneRest_X3_tuneRest rfl rfl rfl (by decide +kernel) ⟨Nat.le_of_ble_eq_true rfl, Nat.le_of_ble_eq_true rfl⟩) hK hy hP hD hS 0 3 rfl rfl rfl rfl hl.1 rfl (Nat.le_of_ble_eq_true rfl) dX3_tuneRest_95 ⟨Nat.zero_le _, Nat.zero_le _⟩ (fun r u H1 locs hp hP1 hS hfr => ?_)
                  obtain ⟨u2, hren_⟩ : ∃ z_, z_ = u := ⟨u, rfl⟩
                  subst hren_
                  obtain ⟨g1, g2, g3⟩ := hp
                  have e5 : kSolB Mt Sl (O ^^^ (O &&& 2 ^ w)) (gset Cv 7 u1 7) = kSolB Mt Sl (O ^^^ (O &&& 2 ^ w)) (kNw Mt Sl (Ch 6) w nt) := solB_eq (fun v hv ho => by rw [gset_same, h3 c_86, kNr_8 hv ho])
                  rw [e5] at g1
                  obtain rfl : r = bI (kSolB Mt Sl (O ^^^ (O &&& 2 ^ w)) (kNw Mt Sl (Ch 6) w nt)) := g1
                  have hP : va_P D vwCl (tu a k Y Nt Sl Mt u2) H1 := hP1
                  generalize H1 = H at hP hS ⊢
                  have hD : va_D (wA (tu a k Y Nt Sl Mt Ch)) (tu a k Y Nt Sl Mt u2) := hD.same rfl
                  refine zeq (tgt := 103) hz dX3_tuneRest_98 (by decide) (fun c_98 => ?_) (fun c_98 => ?_)
                  · refine lv_iinc (v := nI (nt + 1)) (lv' := [(7, .int (nI (nt + 1))), (0, .ref (a 39)), (1, .int (nI O)), (2, .int (nI 6)), (3, .int (nI w)), (4, .int (nI (O ^^^ (O &&& 2 ^ w)))), (5, .int (nI (Ch 6 w))), (6, .int (nI tr))]) hz.1 hz.2.1 dX3_tuneRest_103 hl (k := 7) rfl (nI_add _ 1) (by decide) rfl (fun ls hl => ?_)
                    refine lv_goto (tgt := 59) hz.1 hz.2.1 dX3_tuneRest_106 (by decide) ?_
                    exact ih59 (nt + 1) u2 (by omega) (fun i hi => (g2 i (by omega)).trans ((gset_ne _ _ (by omega)).trans (hCv i hi))) (g3) (fun b hb ht => by rcases Nat.lt_or_ge b nt with q | q; exact hno b q ht; rw [show b = nt by omega]; exact kSolB_f.mp c_98) (by omega) ls H locs hP hS (lv_sub hl [1, 2, 3, 4, 5, 6, 7, 0] rfl)
                  · refine lv_iconst (v := nI 1) hz.1 hz.2.1 dX3_tuneRest_101 (by decide) ?_
                    exact wr_zret hz hr hlk dX3_tuneRest_102 hS (bI_1 (tr_hit hH w8 wO htr c_63 c_73 (kSolB_t.mp c_98))) u2 hP (⟨rfl, fun i hi => (g2 i (by omega)).trans ((gset_ne _ _ (by omega)).trans (hCv i hi)), g3⟩)
        exact lp_59 _ 0 Ch (by omega) (fun _ _ => rfl) (hC) (fun b hb => absurd hb (Nat.not_lt_zero b)) (Nat.lt_succ_self _) ls _ _ hP hS (lv_sub hl [2, 3, 4, 5, 6, 7, 1, 0] rfl)
      refine lv_iload hz.1 hz.2.1 dX3_tuneRest_40 (lv_at hl 0 rfl) ?_
      refine lv_sipush (v := nI 4095) hz.1 hz.2.1 dX3_tuneRest_42 (by decide) ?_
      refine jne (tgt := 52) hz dX3_tuneRest_45 (by decide) (by omega) (by omega) (fun c_45 => ?_) (fun c_45 => ?_)
      · refine lv_iload hz.1 hz.2.1 dX3_tuneRest_52 (lv_at hl 0 rfl) ?_
        exact jn_54 (Ch 6 w) (kTr_left hH (hC 6 w) w8 wO) ls (lv_sub hl [3, 4, 5, 2, 1, 0] rfl)
      · refine lv_iconst (v := nI 1) hz.1 hz.2.1 dX3_tuneRest_48 (by decide) ?_
        refine lv_goto (tgt := 54) hz.1 hz.2.1 dX3_tuneRest_49 (by decide) ?_
        exact jn_54 1 (kTr_one hH (hC 6) w8 wO wmin c_45) ls (lv_sub hl [3, 4, 5, 2, 1, 0] rfl)
    · exact absurd (by decide) c_9
  · refine lv_iconst (v := nI 1) hz.1 hz.2.1 dX3_tuneRest_4 (by decide) ?_
    exact wr_zret hz hr hlk dX3_tuneRest_5 hS (bI_1 (by rw [c_1]; exact kSolB_t.mpr kSol_0)) Ch hP (⟨rfl, fun _ _ => rfl, hC⟩)

set_option maxHeartbeats 4000000 in
set_option maxRecDepth 100000 in
theorem c3_tuneRest_5 (l_ : Launch) (D : va_G) (k : Nat → ClassId) (a : Nat → Nat) (tS : Nat) (sk sv : Nat → Nat) (Y : Nat → Nat) (Nt : Nat → Nat) (Sl : Nat → Nat) (Mt : Nat → Nat) (Ch : Nat → Nat → Nat) (O : Nat) (hH : kHyp Mt Sl O) (hs : ∀ v, Sl v < 2) (hC : ∀ i v, Ch i v < 4096) (hp0 : sPop O + 5 ≤ 8) : Met l_ yX3_tuneRest wsX3_tuneRest ({ frames := 4, cells := 0, slots := 0, locals := 105 }) (va_Pc [.ref (a 39), .int (nI O), .int (nI 5)] (wH (Am tS sk sv) D k (tu a k Y Nt Sl Mt Ch))) (va_Qi (fun (r : Int32) (u : Nat → Nat → Nat) => r = bI (kSolB Mt Sl O (Ch 5)) ∧ (∀ i, i ≤ 5 → u i = Ch i) ∧ (∀ i v, u i v < 4096)) (fun (u : Nat → Nat → Nat) (t_ : State) => va_P D vwCl ((fun (u : Nat → Nat → Nat) => tu a k Y Nt Sl Mt u) u) t_.heap) (wA (tu a k Y Nt Sl Mt Ch))) 0 0 (wA (tu a k Y Nt Sl Mt Ch)) := by
  refine my_entry (cc := cX3_tuneRest) (maxL := 8) (ret := some .boolean) (by decide) rfl (Nat.le_of_ble_eq_true rfl) ?_
  intro p_ e_ s_ m_ bl_ me_ c_ hz hr hlk hB ls hl
  obtain ⟨hP, hK, hD0, hy⟩ := hB
  have hD := wA.self hD0
  have hS : va_S (wA (tu a k Y Nt Sl Mt Ch)) s_.heap s_.heap [] := va_S.rf
  have hl : lv_has ls 8 [(0, .ref (a 39)), (1, .int (nI O)), (2, .int (nI 5))] := hl
  have o1 := hH.1
  refine lv_iload_n hz.1 hz.2.1 dX3_tuneRest_0 rfl (lv_at hl 1 rfl) ?_
  refine jne0 (tgt := 6) hz dX3_tuneRest_1 (by decide) (by omega) (fun c_1 => ?_) (fun c_1 => ?_)
  · refine lv_iload_n hz.1 hz.2.1 dX3_tuneRest_6 rfl (lv_at hl 2 rfl) ?_
    refine lv_bipush (v := nI 8) hz.1 hz.2.1 dX3_tuneRest_7 (by decide) ?_
    refine jlt (tgt := 14) hz dX3_tuneRest_9 (by decide) (by omega) (by omega) (fun c_9 => ?_) (fun c_9 => ?_)
    · refine lv_aload_n hz.1 hz.2.1 dX3_tuneRest_14 rfl (lv_at hl 0 rfl) ?_
      refine lv_iload_n hz.1 hz.2.1 dX3_tuneRest_15 rfl (lv_at hl 1 rfl) ?_
      refine lv_iload_n hz.1 hz.2.1 dX3_tuneRest_16 rfl (lv_at hl 2 rfl) ?_
      refine rdV (A := wA (tu a k Y Nt Sl Mt Ch)) (As := [.int (nI O), .int (nI 5)]) (rest := []) hz (okAm tS sk sv) (c3_mostBound l_ D k a tS sk sv Y Nt Sl Mt Ch O 5 o1 (by decide) hC) (cwV 2 hz.2.2.2.2 gX3_tuneRest_X3_mostBound rfl rfl rfl (by decide +kernel) ⟨Nat.le_of_ble_eq_true rfl, Nat.le_of_ble_eq_true rfl⟩) hK hy hP hD hS 0 3 rfl rfl rfl rfl hl.1 rfl (Nat.le_of_ble_eq_true rfl) dX3_tuneRest_17 ⟨Nat.zero_le _, Nat.zero_le _⟩ ?_
      have mb := kMb_end o1 c_1 (fun w _ => hC 5 w)
      generalize (kMb O (Ch 5) 8).1 = w at mb ⊢
      obtain ⟨w8, wO, wmin⟩ := mb
      refine lv_istore_n (lv' := [(3, .int (nI w)), (0, .ref (a 39)), (1, .int (nI O)), (2, .int (nI 5))]) hz.1 hz.2.1 dX3_tuneRest_20 rfl hl (by decide) rfl (fun ls hl => ?_)
      refine lv_iload_n hz.1 hz.2.1 dX3_tuneRest_21 rfl (lv_at hl 2 rfl) ?_
      refine lv_iconst (v := nI 1) hz.1 hz.2.1 dX3_tuneRest_22 (by decide) ?_
      refine lv_iload_n hz.1 hz.2.1 dX3_tuneRest_23 rfl (lv_at hl 0 rfl) ?_
      refine lv_ishl hz.1 hz.2.1 dX3_tuneRest_24 ?_
      refine toe (z := nI (2 ^ w)) (nI_shl1 (by omega)) ?_
      refine lv_iconst (v := (-1)) hz.1 hz.2.1 dX3_tuneRest_25 (by decide) ?_
      refine lv_ixor hz.1 hz.2.1 dX3_tuneRest_26 ?_
      refine lv_iand hz.1 hz.2.1 dX3_tuneRest_27 ?_
      refine toe (z := nI (O ^^^ (O &&& 2 ^ w))) (nI_andnot _ _) ?_
      refine lv_istore (lv' := [(4, .int (nI (O ^^^ (O &&& 2 ^ w)))), (3, .int (nI w)), (0, .ref (a 39)), (1, .int (nI O)), (2, .int (nI 5))]) hz.1 hz.2.1 dX3_tuneRest_28 hl (by decide) rfl (fun ls hl => ?_)
      refine lv_aload_n hz.1 hz.2.1 dX3_tuneRest_30 rfl (lv_at hl 2 rfl) ?_
      refine rg (T := TX3) (N := 5) hz hinX3_tuneRest_X3 hK hP 0 rfl rfl 3 (by decide) (List.mem_of_getElem? (i := 1) rfl) rfl (v := .ref (a 43)) rfl dX3_tuneRest_31 ?_
      refine lv_iload_n hz.1 hz.2.1 dX3_tuneRest_34 rfl (lv_at hl 4 rfl) ?_
      refine rald4 hz hK hP 4 rfl (i := 5) (v := a 49) (by omega) (by decide) (if_pos (by omega)) dX3_tuneRest_35 ?_
      refine lv_iload_n hz.1 hz.2.1 dX3_tuneRest_36 rfl (lv_at hl 1 rfl) ?_
      refine rald hz hK hP 10 0 rfl rfl (i := w) (by omega) (by decide) (v := nI (Ch 5 w)) rfl dX3_tuneRest_37 ?_
      have c1 := hC 5 w
      refine lv_istore (lv' := [(5, .int (nI (Ch 5 w))), (4, .int (nI (O ^^^ (O &&& 2 ^ w)))), (3, .int (nI w)), (0, .ref (a 39)), (1, .int (nI O)), (2, .int (nI 5))]) hz.1 hz.2.1 dX3_tuneRest_38 hl (by decide) rfl (fun ls hl => ?_)
      have jn_54 : ∀ (tr : Nat), (kTr Mt Sl (Ch 5) O w tr) → ∀ ls : Array Slot, lv_has ls 8 [(0, .ref (a 39)), (1, .int (nI O)), (2, .int (nI 5)), (3, .int (nI w)), (4, .int (nI (O ^^^ (O &&& 2 ^ w)))), (5, .int (nI (Ch 5 w)))] → W p_ l_ e_ ({ frames := 4, cells := 0, slots := 0, locals := 105 }) s_ m_ [.ref (a 39), .int (nI O), .int (nI 5)].toArray bl_ me_ c_ s_.heap [] 0 0 (MQ bl_ (va_Qi (fun (r : Int32) (u : Nat → Nat → Nat) => r = bI (kSolB Mt Sl O (Ch 5)) ∧ (∀ i, i ≤ 5 → u i = Ch i) ∧ (∀ i v, u i v < 4096)) (fun (u : Nat → Nat → Nat) (t_ : State) => va_P D vwCl ((fun (u : Nat → Nat → Nat) => tu a k Y Nt Sl Mt u) u) t_.heap) (wA (tu a k Y Nt Sl Mt Ch))) [.ref (a 39), .int (nI O), .int (nI 5)].toArray s_ 0 0 (wA (tu a k Y Nt Sl Mt Ch))) (F0 m_ 54 ls [.int (nI tr)]) := by
        intro tr htr ls hl
        refine lv_istore (lv' := [(6, .int (nI tr)), (0, .ref (a 39)), (1, .int (nI O)), (2, .int (nI 5)), (3, .int (nI w)), (4, .int (nI (O ^^^ (O &&& 2 ^ w)))), (5, .int (nI (Ch 5 w)))]) hz.1 hz.2.1 dX3_tuneRest_54 hl (by decide) rfl (fun ls hl => ?_)
        refine lv_iconst (v := nI 0) hz.1 hz.2.1 dX3_tuneRest_56 (by decide) ?_
        refine lv_istore (lv' := [(7, .int (nI 0)), (6, .int (nI tr)), (0, .ref (a 39)), (1, .int (nI O)), (2, .int (nI 5)), (3, .int (nI w)), (4, .int (nI (O ^^^ (O &&& 2 ^ w)))), (5, .int (nI (Ch 5 w)))]) hz.1 hz.2.1 dX3_tuneRest_57 hl (by decide) rfl (fun ls hl => ?_)
        have lp_59 : ∀ (fu : Nat) (nt : Nat) (Cv : Nat → Nat → Nat), (nt ≤ 12) → (∀ i, i ≤ 5 → Cv i = Ch i) → (∀ i v, Cv i v < 4096) → (∀ b, b < nt → tr.testBit b = true → ¬ kSol Mt Sl (O ^^^ (O &&& 2 ^ w)) (kNw Mt Sl (Ch 5) w b)) → 12 - nt < fu → ∀ ls : Array Slot, ∀ (H : Heap) (locs : List Loc), va_P D vwCl (tu a k Y Nt Sl Mt Cv) H → va_S (wA (tu a k Y Nt Sl Mt Ch)) s_.heap H locs → lv_has ls 8 [(0, .ref (a 39)), (1, .int (nI O)), (2, .int (nI 5)), (3, .int (nI w)), (4, .int (nI (O ^^^ (O &&& 2 ^ w)))), (5, .int (nI (Ch 5 w))), (6, .int (nI tr)), (7, .int (nI nt))] → W p_ l_ e_ ({ frames := 4, cells := 0, slots := 0, locals := 105 }) s_ m_ [.ref (a 39), .int (nI O), .int (nI 5)].toArray bl_ me_ c_ H locs 0 0 (MQ bl_ (va_Qi (fun (r : Int32) (u : Nat → Nat → Nat) => r = bI (kSolB Mt Sl O (Ch 5)) ∧ (∀ i, i ≤ 5 → u i = Ch i) ∧ (∀ i v, u i v < 4096)) (fun (u : Nat → Nat → Nat) (t_ : State) => va_P D vwCl ((fun (u : Nat → Nat → Nat) => tu a k Y Nt Sl Mt u) u) t_.heap) (wA (tu a k Y Nt Sl Mt Ch))) [.ref (a 39), .int (nI O), .int (nI 5)].toArray s_ 0 0 (wA (tu a k Y Nt Sl Mt Ch))) (F0 m_ 59 ls []) := by
          intro fu
          induction fu with
          | zero => intro nt Cv hnt hCv hCb hno hm; exact absurd hm (Nat.not_lt_zero _)
          | succ fu ih59 =>
            intro nt Cv hnt hCv hCb hno hm ls H locs hP hS hl
            have hD : va_D (wA (tu a k Y Nt Sl Mt Ch)) (tu a k Y Nt Sl Mt Cv) := hD.same rfl
            refine lv_iload hz.1 hz.2.1 dX3_tuneRest_59 (lv_at hl 7 rfl) ?_
            refine lv_bipush (v := nI 12) hz.1 hz.2.1 dX3_tuneRest_61 (by decide) ?_
            refine jge (tgt := 109) hz dX3_tuneRest_63 (by decide) (by omega) (by omega) (fun c_63 => ?_) (fun c_63 => ?_)
            · obtain rfl : nt = 12 := by omega
              refine lv_iconst (v := nI 0) hz.1 hz.2.1 dX3_tuneRest_109 (by decide) ?_
              exact wr_zret hz hr hlk dX3_tuneRest_110 hS (bI_0 (tr_end htr (fun b hb => hno b (by omega)))) Cv hP (⟨rfl, hCv, hCb⟩)
            · have t1 := htr.1
              have r1 : (O ^^^ (O &&& 2 ^ w)) < 256 := Nat.lt_of_le_of_lt (andnot_le _ _) o1
              refine lv_iload hz.1 hz.2.1 dX3_tuneRest_66 (lv_at hl 6 rfl) ?_
              refine lv_iload hz.1 hz.2.1 dX3_tuneRest_68 (lv_at hl 7 rfl) ?_
              refine rdSN (n := 2) (As := [.int (nI tr), .int (nI nt)]) (rest := []) hz (c5_has l_ tr nt (by omega) (by omega)) rfl gX3_tuneRest_X5_has_n68 rfl ⟨rfl, rfl⟩ hy (List.mem_of_getElem? (i := 6) rfl) (List.mem_of_getElem? (i := 15) rfl) (List.mem_of_getElem? (i := 14) rfl) (by decide +kernel) ⟨Nat.le_of_ble_eq_true rfl, Nat.le_of_ble_eq_true rfl⟩ rfl hl.1 rfl (Nat.le_of_ble_eq_true rfl) dX3_tuneRest_70 ⟨Nat.zero_le _, Nat.zero_le _⟩ ?_
              refine zeq (tgt := 103) hz dX3_tuneRest_73 (by decide) (fun c_73 => ?_) (fun c_73 => ?_)
              · refine lv_iinc (v := nI (nt + 1)) (lv' := [(7, .int (nI (nt + 1))), (0, .ref (a 39)), (1, .int (nI O)), (2, .int (nI 5)), (3, .int (nI w)), (4, .int (nI (O ^^^ (O &&& 2 ^ w)))), (5, .int (nI (Ch 5 w))), (6, .int (nI tr))]) hz.1 hz.2.1 dX3_tuneRest_103 hl (k := 7) rfl (nI_add _ 1) (by decide) rfl (fun ls hl => ?_)
                refine lv_goto (tgt := 59) hz.1 hz.2.1 dX3_tuneRest_106 (by decide) ?_
                exact ih59 (nt + 1) Cv (by omega) (hCv) (hCb) (fun b hb ht => by rcases Nat.lt_or_ge b nt with q | q; exact hno b q ht; rw [show b = nt by omega] at ht; exact absurd (c_73.symm.trans ht) (by decide)) (by omega) ls H locs hP hS (lv_sub hl [1, 2, 3, 4, 5, 6, 7, 0] rfl)
              · refine lv_aload_n hz.1 hz.2.1 dX3_tuneRest_76 rfl (lv_at hl 0 rfl) ?_
                refine lv_iload_n hz.1 hz.2.1 dX3_tuneRest_77 rfl (lv_at hl 3 rfl) ?_
                refine lv_iload hz.1 hz.2.1 dX3_tuneRest_78 (lv_at hl 7 rfl) ?_
                refine lv_iload hz.1 hz.2.1 dX3_tuneRest_80 (lv_at hl 4 rfl) ?_
                refine lv_iload_n hz.1 hz.2.1 dX3_tuneRest_82 rfl (lv_at hl 2 rfl) ?_
                refine wrV (A := wA (tu a k Y Nt Sl Mt Ch)) (As := [.int (nI w), .int (nI nt), .int (nI (O ^^^ (O &&& 2 ^ w))), .int (nI 5)]) (rest := []) hz (okAm tS sk sv) (c3_narrows l_ D k a tS sk sv Y Nt Sl Mt Cv w nt (O ^^^ (O &&& 2 ^ w)) 5 w8 (by omega) r1 (by decide) hs (hH.2.2.1 w w8 wO) hCb) (cwV 4 hz.2.2.2.2 gX3_tuneRest_X3_narrows rfl rfl rfl (by decide +kernel) ⟨Nat.le_of_ble_eq_true rfl, Nat.le_of_ble_eq_true rfl⟩) hK hy hP hD hS 0 3 rfl rfl rfl rfl hl.1 rfl (Nat.le_of_ble_eq_true rfl) dX3_tuneRest_83 ⟨Nat.zero_le _, Nat.zero_le _⟩ (fun r u H1 locs hp hP1 hS hfr => ?_)
                obtain ⟨u1, hren_⟩ : ∃ z_, z_ = u := ⟨u, rfl⟩
                subst hren_
                obtain ⟨h1, h2, h3⟩ := hp
                have eD : Cv 5 = Ch 5 := hCv 5 (Nat.le_refl _)
                rw [eD] at h1 h3
                obtain rfl : r = bI (sAll (kNB Mt Sl (Ch 5) (O ^^^ (O &&& 2 ^ w)) w nt) 8) := h1
                have hP : va_P D vwCl (tu a k Y Nt Sl Mt (gset Cv 6 u1)) H1 := hP1
                generalize H1 = H at hP hS ⊢
                have hD : va_D (wA (tu a k Y Nt Sl Mt Ch)) (tu a k Y Nt Sl Mt (gset Cv 6 u1)) := hD.same rfl
                refine zeq (tgt := 103) hz dX3_tuneRest_86 (by decide) (fun c_86 => ?_) (fun c_86 => ?_)
                · refine lv_iinc (v := nI (nt + 1)) (lv' := [(7, .int (nI (nt + 1))), (0, .ref (a 39)), (1, .int (nI O)), (2, .int (nI 5)), (3, .int (nI w)), (4, .int (nI (O ^^^ (O &&& 2 ^ w)))), (5, .int (nI (Ch 5 w))), (6, .int (nI tr))]) hz.1 hz.2.1 dX3_tuneRest_103 hl (k := 7) rfl (nI_add _ 1) (by decide) rfl (fun ls hl => ?_)
                  refine lv_goto (tgt := 59) hz.1 hz.2.1 dX3_tuneRest_106 (by decide) ?_
                  exact ih59 (nt + 1) (gset Cv 6 u1) (by omega) (fun i hi => (gset_ne _ _ (by omega)).trans (hCv i hi)) (gset_lt hCb h2) (fun b hb ht => by rcases Nat.lt_or_ge b nt with q | q; exact hno b q ht; rw [show b = nt by omega]; exact kNB_ok c_86) (by omega) ls H locs hP hS (lv_sub hl [1, 2, 3, 4, 5, 6, 7, 0] rfl)
                · refine lv_aload_n hz.1 hz.2.1 dX3_tuneRest_89 rfl (lv_at hl 0 rfl) ?_
                  refine lv_iload hz.1 hz.2.1 dX3_tuneRest_90 (lv_at hl 4 rfl) ?_
                  refine lv_iload_n hz.1 hz.2.1 dX3_tuneRest_92 rfl (lv_at hl 2 rfl) ?_
                  refine lv_iconst (v := nI 1) hz.1 hz.2.1 dX3_tuneRest_93 (by decide) ?_
                  refine lv_iadd hz.1 hz.2.1 dX3_tuneRest_94 ?_
                  refine toe (z := nI 6) (rfl) ?_
                  refine wrV (A := wA (tu a k Y Nt Sl Mt Ch)) (As := [.int (nI (O ^^^ (O &&& 2 ^ w))), .int (nI 6)]) (rest := []) hz (okAm tS sk sv) (c3_tuneRest_6 l_ D k a tS sk sv Y Nt Sl Mt (gset Cv 6 u1) (O ^^^ (O &&& 2 ^ w)) hH.rest hs (gset_lt hCb h2) (by have := rest_pop o1 w8 wO; omega)) (cwV 2 hz.2.2.2.2 gX3_tuneRest_X3_tuneRest rfl rfl rfl (by decide +kernel) ⟨Nat.le_of_ble_eq_true rfl, Nat.le_of_ble_eq_true rfl⟩) hK hy hP hD hS 0 3 rfl rfl rfl rfl hl.1 rfl (Nat.le_of_ble_eq_true rfl) dX3_tuneRest_95 ⟨Nat.zero_le _, Nat.zero_le _⟩ (fun r u H1 locs hp hP1 hS hfr => ?_)
                  obtain ⟨u2, hren_⟩ : ∃ z_, z_ = u := ⟨u, rfl⟩
                  subst hren_
                  obtain ⟨g1, g2, g3⟩ := hp
                  have e5 : kSolB Mt Sl (O ^^^ (O &&& 2 ^ w)) (gset Cv 6 u1 6) = kSolB Mt Sl (O ^^^ (O &&& 2 ^ w)) (kNw Mt Sl (Ch 5) w nt) := solB_eq (fun v hv ho => by rw [gset_same, h3 c_86, kNr_8 hv ho])
                  rw [e5] at g1
                  obtain rfl : r = bI (kSolB Mt Sl (O ^^^ (O &&& 2 ^ w)) (kNw Mt Sl (Ch 5) w nt)) := g1
                  have hP : va_P D vwCl (tu a k Y Nt Sl Mt u2) H1 := hP1
                  generalize H1 = H at hP hS ⊢
                  have hD : va_D (wA (tu a k Y Nt Sl Mt Ch)) (tu a k Y Nt Sl Mt u2) := hD.same rfl
                  refine zeq (tgt := 103) hz dX3_tuneRest_98 (by decide) (fun c_98 => ?_) (fun c_98 => ?_)
                  · refine lv_iinc (v := nI (nt + 1)) (lv' := [(7, .int (nI (nt + 1))), (0, .ref (a 39)), (1, .int (nI O)), (2, .int (nI 5)), (3, .int (nI w)), (4, .int (nI (O ^^^ (O &&& 2 ^ w)))), (5, .int (nI (Ch 5 w))), (6, .int (nI tr))]) hz.1 hz.2.1 dX3_tuneRest_103 hl (k := 7) rfl (nI_add _ 1) (by decide) rfl (fun ls hl => ?_)
                    refine lv_goto (tgt := 59) hz.1 hz.2.1 dX3_tuneRest_106 (by decide) ?_
                    exact ih59 (nt + 1) u2 (by omega) (fun i hi => (g2 i (by omega)).trans ((gset_ne _ _ (by omega)).trans (hCv i hi))) (g3) (fun b hb ht => by rcases Nat.lt_or_ge b nt with q | q; exact hno b q ht; rw [show b = nt by omega]; exact kSolB_f.mp c_98) (by omega) ls H locs hP hS (lv_sub hl [1, 2, 3, 4, 5, 6, 7, 0] rfl)
                  · refine lv_iconst (v := nI 1) hz.1 hz.2.1 dX3_tuneRest_101 (by decide) ?_
                    exact wr_zret hz hr hlk dX3_tuneRest_102 hS (bI_1 (tr_hit hH w8 wO htr c_63 c_73 (kSolB_t.mp c_98))) u2 hP (⟨rfl, fun i hi => (g2 i (by omega)).trans ((gset_ne _ _ (by omega)).trans (hCv i hi)), g3⟩)
        exact lp_59 _ 0 Ch (by omega) (fun _ _ => rfl) (hC) (fun b hb => absurd hb (Nat.not_lt_zero b)) (Nat.lt_succ_self _) ls _ _ hP hS (lv_sub hl [2, 3, 4, 5, 6, 7, 1, 0] rfl)
      refine lv_iload hz.1 hz.2.1 dX3_tuneRest_40 (lv_at hl 0 rfl) ?_
      refine lv_sipush (v := nI 4095) hz.1 hz.2.1 dX3_tuneRest_42 (by decide) ?_
      refine jne (tgt := 52) hz dX3_tuneRest_45 (by decide) (by omega) (by omega) (fun c_45 => ?_) (fun c_45 => ?_)
      · refine lv_iload hz.1 hz.2.1 dX3_tuneRest_52 (lv_at hl 0 rfl) ?_
        exact jn_54 (Ch 5 w) (kTr_left hH (hC 5 w) w8 wO) ls (lv_sub hl [3, 4, 5, 2, 1, 0] rfl)
      · refine lv_iconst (v := nI 1) hz.1 hz.2.1 dX3_tuneRest_48 (by decide) ?_
        refine lv_goto (tgt := 54) hz.1 hz.2.1 dX3_tuneRest_49 (by decide) ?_
        exact jn_54 1 (kTr_one hH (hC 5) w8 wO wmin c_45) ls (lv_sub hl [3, 4, 5, 2, 1, 0] rfl)
    · exact absurd (by decide) c_9
  · refine lv_iconst (v := nI 1) hz.1 hz.2.1 dX3_tuneRest_4 (by decide) ?_
    exact wr_zret hz hr hlk dX3_tuneRest_5 hS (bI_1 (by rw [c_1]; exact kSolB_t.mpr kSol_0)) Ch hP (⟨rfl, fun _ _ => rfl, hC⟩)

set_option maxHeartbeats 4000000 in
set_option maxRecDepth 100000 in
theorem c3_tuneRest_4 (l_ : Launch) (D : va_G) (k : Nat → ClassId) (a : Nat → Nat) (tS : Nat) (sk sv : Nat → Nat) (Y : Nat → Nat) (Nt : Nat → Nat) (Sl : Nat → Nat) (Mt : Nat → Nat) (Ch : Nat → Nat → Nat) (O : Nat) (hH : kHyp Mt Sl O) (hs : ∀ v, Sl v < 2) (hC : ∀ i v, Ch i v < 4096) (hp0 : sPop O + 4 ≤ 8) : Met l_ yX3_tuneRest wsX3_tuneRest ({ frames := 5, cells := 0, slots := 0, locals := 132 }) (va_Pc [.ref (a 39), .int (nI O), .int (nI 4)] (wH (Am tS sk sv) D k (tu a k Y Nt Sl Mt Ch))) (va_Qi (fun (r : Int32) (u : Nat → Nat → Nat) => r = bI (kSolB Mt Sl O (Ch 4)) ∧ (∀ i, i ≤ 4 → u i = Ch i) ∧ (∀ i v, u i v < 4096)) (fun (u : Nat → Nat → Nat) (t_ : State) => va_P D vwCl ((fun (u : Nat → Nat → Nat) => tu a k Y Nt Sl Mt u) u) t_.heap) (wA (tu a k Y Nt Sl Mt Ch))) 0 0 (wA (tu a k Y Nt Sl Mt Ch)) := by
  refine my_entry (cc := cX3_tuneRest) (maxL := 8) (ret := some .boolean) (by decide) rfl (Nat.le_of_ble_eq_true rfl) ?_
  intro p_ e_ s_ m_ bl_ me_ c_ hz hr hlk hB ls hl
  obtain ⟨hP, hK, hD0, hy⟩ := hB
  have hD := wA.self hD0
  have hS : va_S (wA (tu a k Y Nt Sl Mt Ch)) s_.heap s_.heap [] := va_S.rf
  have hl : lv_has ls 8 [(0, .ref (a 39)), (1, .int (nI O)), (2, .int (nI 4))] := hl
  have o1 := hH.1
  refine lv_iload_n hz.1 hz.2.1 dX3_tuneRest_0 rfl (lv_at hl 1 rfl) ?_
  refine jne0 (tgt := 6) hz dX3_tuneRest_1 (by decide) (by omega) (fun c_1 => ?_) (fun c_1 => ?_)
  · refine lv_iload_n hz.1 hz.2.1 dX3_tuneRest_6 rfl (lv_at hl 2 rfl) ?_
    refine lv_bipush (v := nI 8) hz.1 hz.2.1 dX3_tuneRest_7 (by decide) ?_
    refine jlt (tgt := 14) hz dX3_tuneRest_9 (by decide) (by omega) (by omega) (fun c_9 => ?_) (fun c_9 => ?_)
    · refine lv_aload_n hz.1 hz.2.1 dX3_tuneRest_14 rfl (lv_at hl 0 rfl) ?_
      refine lv_iload_n hz.1 hz.2.1 dX3_tuneRest_15 rfl (lv_at hl 1 rfl) ?_
      refine lv_iload_n hz.1 hz.2.1 dX3_tuneRest_16 rfl (lv_at hl 2 rfl) ?_
      refine rdV (A := wA (tu a k Y Nt Sl Mt Ch)) (As := [.int (nI O), .int (nI 4)]) (rest := []) hz (okAm tS sk sv) (c3_mostBound l_ D k a tS sk sv Y Nt Sl Mt Ch O 4 o1 (by decide) hC) (cwV 2 hz.2.2.2.2 gX3_tuneRest_X3_mostBound rfl rfl rfl (by decide +kernel) ⟨Nat.le_of_ble_eq_true rfl, Nat.le_of_ble_eq_true rfl⟩) hK hy hP hD hS 0 3 rfl rfl rfl rfl hl.1 rfl (Nat.le_of_ble_eq_true rfl) dX3_tuneRest_17 ⟨Nat.zero_le _, Nat.zero_le _⟩ ?_
      have mb := kMb_end o1 c_1 (fun w _ => hC 4 w)
      generalize (kMb O (Ch 4) 8).1 = w at mb ⊢
      obtain ⟨w8, wO, wmin⟩ := mb
      refine lv_istore_n (lv' := [(3, .int (nI w)), (0, .ref (a 39)), (1, .int (nI O)), (2, .int (nI 4))]) hz.1 hz.2.1 dX3_tuneRest_20 rfl hl (by decide) rfl (fun ls hl => ?_)
      refine lv_iload_n hz.1 hz.2.1 dX3_tuneRest_21 rfl (lv_at hl 2 rfl) ?_
      refine lv_iconst (v := nI 1) hz.1 hz.2.1 dX3_tuneRest_22 (by decide) ?_
      refine lv_iload_n hz.1 hz.2.1 dX3_tuneRest_23 rfl (lv_at hl 0 rfl) ?_
      refine lv_ishl hz.1 hz.2.1 dX3_tuneRest_24 ?_
      refine toe (z := nI (2 ^ w)) (nI_shl1 (by omega)) ?_
      refine lv_iconst (v := (-1)) hz.1 hz.2.1 dX3_tuneRest_25 (by decide) ?_
      refine lv_ixor hz.1 hz.2.1 dX3_tuneRest_26 ?_
      refine lv_iand hz.1 hz.2.1 dX3_tuneRest_27 ?_
      refine toe (z := nI (O ^^^ (O &&& 2 ^ w))) (nI_andnot _ _) ?_
      refine lv_istore (lv' := [(4, .int (nI (O ^^^ (O &&& 2 ^ w)))), (3, .int (nI w)), (0, .ref (a 39)), (1, .int (nI O)), (2, .int (nI 4))]) hz.1 hz.2.1 dX3_tuneRest_28 hl (by decide) rfl (fun ls hl => ?_)
      refine lv_aload_n hz.1 hz.2.1 dX3_tuneRest_30 rfl (lv_at hl 2 rfl) ?_
      refine rg (T := TX3) (N := 5) hz hinX3_tuneRest_X3 hK hP 0 rfl rfl 3 (by decide) (List.mem_of_getElem? (i := 1) rfl) rfl (v := .ref (a 43)) rfl dX3_tuneRest_31 ?_
      refine lv_iload_n hz.1 hz.2.1 dX3_tuneRest_34 rfl (lv_at hl 4 rfl) ?_
      refine rald4 hz hK hP 4 rfl (i := 4) (v := a 48) (by omega) (by decide) (if_pos (by omega)) dX3_tuneRest_35 ?_
      refine lv_iload_n hz.1 hz.2.1 dX3_tuneRest_36 rfl (lv_at hl 1 rfl) ?_
      refine rald hz hK hP 9 0 rfl rfl (i := w) (by omega) (by decide) (v := nI (Ch 4 w)) rfl dX3_tuneRest_37 ?_
      have c1 := hC 4 w
      refine lv_istore (lv' := [(5, .int (nI (Ch 4 w))), (4, .int (nI (O ^^^ (O &&& 2 ^ w)))), (3, .int (nI w)), (0, .ref (a 39)), (1, .int (nI O)), (2, .int (nI 4))]) hz.1 hz.2.1 dX3_tuneRest_38 hl (by decide) rfl (fun ls hl => ?_)
      have jn_54 : ∀ (tr : Nat), (kTr Mt Sl (Ch 4) O w tr) → ∀ ls : Array Slot, lv_has ls 8 [(0, .ref (a 39)), (1, .int (nI O)), (2, .int (nI 4)), (3, .int (nI w)), (4, .int (nI (O ^^^ (O &&& 2 ^ w)))), (5, .int (nI (Ch 4 w)))] → W p_ l_ e_ ({ frames := 5, cells := 0, slots := 0, locals := 132 }) s_ m_ [.ref (a 39), .int (nI O), .int (nI 4)].toArray bl_ me_ c_ s_.heap [] 0 0 (MQ bl_ (va_Qi (fun (r : Int32) (u : Nat → Nat → Nat) => r = bI (kSolB Mt Sl O (Ch 4)) ∧ (∀ i, i ≤ 4 → u i = Ch i) ∧ (∀ i v, u i v < 4096)) (fun (u : Nat → Nat → Nat) (t_ : State) => va_P D vwCl ((fun (u : Nat → Nat → Nat) => tu a k Y Nt Sl Mt u) u) t_.heap) (wA (tu a k Y Nt Sl Mt Ch))) [.ref (a 39), .int (nI O), .int (nI 4)].toArray s_ 0 0 (wA (tu a k Y Nt Sl Mt Ch))) (F0 m_ 54 ls [.int (nI tr)]) := by
        intro tr htr ls hl
        refine lv_istore (lv' := [(6, .int (nI tr)), (0, .ref (a 39)), (1, .int (nI O)), (2, .int (nI 4)), (3, .int (nI w)), (4, .int (nI (O ^^^ (O &&& 2 ^ w)))), (5, .int (nI (Ch 4 w)))]) hz.1 hz.2.1 dX3_tuneRest_54 hl (by decide) rfl (fun ls hl => ?_)
        refine lv_iconst (v := nI 0) hz.1 hz.2.1 dX3_tuneRest_56 (by decide) ?_
        refine lv_istore (lv' := [(7, .int (nI 0)), (6, .int (nI tr)), (0, .ref (a 39)), (1, .int (nI O)), (2, .int (nI 4)), (3, .int (nI w)), (4, .int (nI (O ^^^ (O &&& 2 ^ w)))), (5, .int (nI (Ch 4 w)))]) hz.1 hz.2.1 dX3_tuneRest_57 hl (by decide) rfl (fun ls hl => ?_)
        have lp_59 : ∀ (fu : Nat) (nt : Nat) (Cv : Nat → Nat → Nat), (nt ≤ 12) → (∀ i, i ≤ 4 → Cv i = Ch i) → (∀ i v, Cv i v < 4096) → (∀ b, b < nt → tr.testBit b = true → ¬ kSol Mt Sl (O ^^^ (O &&& 2 ^ w)) (kNw Mt Sl (Ch 4) w b)) → 12 - nt < fu → ∀ ls : Array Slot, ∀ (H : Heap) (locs : List Loc), va_P D vwCl (tu a k Y Nt Sl Mt Cv) H → va_S (wA (tu a k Y Nt Sl Mt Ch)) s_.heap H locs → lv_has ls 8 [(0, .ref (a 39)), (1, .int (nI O)), (2, .int (nI 4)), (3, .int (nI w)), (4, .int (nI (O ^^^ (O &&& 2 ^ w)))), (5, .int (nI (Ch 4 w))), (6, .int (nI tr)), (7, .int (nI nt))] → W p_ l_ e_ ({ frames := 5, cells := 0, slots := 0, locals := 132 }) s_ m_ [.ref (a 39), .int (nI O), .int (nI 4)].toArray bl_ me_ c_ H locs 0 0 (MQ bl_ (va_Qi (fun (r : Int32) (u : Nat → Nat → Nat) => r = bI (kSolB Mt Sl O (Ch 4)) ∧ (∀ i, i ≤ 4 → u i = Ch i) ∧ (∀ i v, u i v < 4096)) (fun (u : Nat → Nat → Nat) (t_ : State) => va_P D vwCl ((fun (u : Nat → Nat → Nat) => tu a k Y Nt Sl Mt u) u) t_.heap) (wA (tu a k Y Nt Sl Mt Ch))) [.ref (a 39), .int (nI O), .int (nI 4)].toArray s_ 0 0 (wA (tu a k Y Nt Sl Mt Ch))) (F0 m_ 59 ls []) := by
          intro fu
          induction fu with
          | zero => intro nt Cv hnt hCv hCb hno hm; exact absurd hm (Nat.not_lt_zero _)
          | succ fu ih59 =>
            intro nt Cv hnt hCv hCb hno hm ls H locs hP hS hl
            have hD : va_D (wA (tu a k Y Nt Sl Mt Ch)) (tu a k Y Nt Sl Mt Cv) := hD.same rfl
            refine lv_iload hz.1 hz.2.1 dX3_tuneRest_59 (lv_at hl 7 rfl) ?_
            refine lv_bipush (v := nI 12) hz.1 hz.2.1 dX3_tuneRest_61 (by decide) ?_
            refine jge (tgt := 109) hz dX3_tuneRest_63 (by decide) (by omega) (by omega) (fun c_63 => ?_) (fun c_63 => ?_)
            · obtain rfl : nt = 12 := by omega
              refine lv_iconst (v := nI 0) hz.1 hz.2.1 dX3_tuneRest_109 (by decide) ?_
              exact wr_zret hz hr hlk dX3_tuneRest_110 hS (bI_0 (tr_end htr (fun b hb => hno b (by omega)))) Cv hP (⟨rfl, hCv, hCb⟩)
            · have t1 := htr.1
              have r1 : (O ^^^ (O &&& 2 ^ w)) < 256 := Nat.lt_of_le_of_lt (andnot_le _ _) o1
              refine lv_iload hz.1 hz.2.1 dX3_tuneRest_66 (lv_at hl 6 rfl) ?_
              refine lv_iload hz.1 hz.2.1 dX3_tuneRest_68 (lv_at hl 7 rfl) ?_
              refine rdSN (n := 2) (As := [.int (nI tr), .int (nI nt)]) (rest := []) hz (c5_has l_ tr nt (by omega) (by omega)) rfl gX3_tuneRest_X5_has_n68 rfl ⟨rfl, rfl⟩ hy (List.mem_of_getElem? (i := 6) rfl) (List.mem_of_getElem? (i := 15) rfl) (List.mem_of_getElem? (i := 14) rfl) (by decide +kernel) ⟨Nat.le_of_ble_eq_true rfl, Nat.le_of_ble_eq_true rfl⟩ rfl hl.1 rfl (Nat.le_of_ble_eq_true rfl) dX3_tuneRest_70 ⟨Nat.zero_le _, Nat.zero_le _⟩ ?_
              refine zeq (tgt := 103) hz dX3_tuneRest_73 (by decide) (fun c_73 => ?_) (fun c_73 => ?_)
              · refine lv_iinc (v := nI (nt + 1)) (lv' := [(7, .int (nI (nt + 1))), (0, .ref (a 39)), (1, .int (nI O)), (2, .int (nI 4)), (3, .int (nI w)), (4, .int (nI (O ^^^ (O &&& 2 ^ w)))), (5, .int (nI (Ch 4 w))), (6, .int (nI tr))]) hz.1 hz.2.1 dX3_tuneRest_103 hl (k := 7) rfl (nI_add _ 1) (by decide) rfl (fun ls hl => ?_)
                refine lv_goto (tgt := 59) hz.1 hz.2.1 dX3_tuneRest_106 (by decide) ?_
                exact ih59 (nt + 1) Cv (by omega) (hCv) (hCb) (fun b hb ht => by rcases Nat.lt_or_ge b nt with q | q; exact hno b q ht; rw [show b = nt by omega] at ht; exact absurd (c_73.symm.trans ht) (by decide)) (by omega) ls H locs hP hS (lv_sub hl [1, 2, 3, 4, 5, 6, 7, 0] rfl)
              · refine lv_aload_n hz.1 hz.2.1 dX3_tuneRest_76 rfl (lv_at hl 0 rfl) ?_
                refine lv_iload_n hz.1 hz.2.1 dX3_tuneRest_77 rfl (lv_at hl 3 rfl) ?_
                refine lv_iload hz.1 hz.2.1 dX3_tuneRest_78 (lv_at hl 7 rfl) ?_
                refine lv_iload hz.1 hz.2.1 dX3_tuneRest_80 (lv_at hl 4 rfl) ?_
                refine lv_iload_n hz.1 hz.2.1 dX3_tuneRest_82 rfl (lv_at hl 2 rfl) ?_
                refine wrV (A := wA (tu a k Y Nt Sl Mt Ch)) (As := [.int (nI w), .int (nI nt), .int (nI (O ^^^ (O &&& 2 ^ w))), .int (nI 4)]) (rest := []) hz (okAm tS sk sv) (c3_narrows l_ D k a tS sk sv Y Nt Sl Mt Cv w nt (O ^^^ (O &&& 2 ^ w)) 4 w8 (by omega) r1 (by decide) hs (hH.2.2.1 w w8 wO) hCb) (cwV 4 hz.2.2.2.2 gX3_tuneRest_X3_narrows rfl rfl rfl (by decide +kernel) ⟨Nat.le_of_ble_eq_true rfl, Nat.le_of_ble_eq_true rfl⟩) hK hy hP hD hS 0 3 rfl rfl rfl rfl hl.1 rfl (Nat.le_of_ble_eq_true rfl) dX3_tuneRest_83 ⟨Nat.zero_le _, Nat.zero_le _⟩ (fun r u H1 locs hp hP1 hS hfr => ?_)
                obtain ⟨u1, hren_⟩ : ∃ z_, z_ = u := ⟨u, rfl⟩
                subst hren_
                obtain ⟨h1, h2, h3⟩ := hp
                have eD : Cv 4 = Ch 4 := hCv 4 (Nat.le_refl _)
                rw [eD] at h1 h3
                obtain rfl : r = bI (sAll (kNB Mt Sl (Ch 4) (O ^^^ (O &&& 2 ^ w)) w nt) 8) := h1
                have hP : va_P D vwCl (tu a k Y Nt Sl Mt (gset Cv 5 u1)) H1 := hP1
                generalize H1 = H at hP hS ⊢
                have hD : va_D (wA (tu a k Y Nt Sl Mt Ch)) (tu a k Y Nt Sl Mt (gset Cv 5 u1)) := hD.same rfl
                refine zeq (tgt := 103) hz dX3_tuneRest_86 (by decide) (fun c_86 => ?_) (fun c_86 => ?_)
                · refine lv_iinc (v := nI (nt + 1)) (lv' := [(7, .int (nI (nt + 1))), (0, .ref (a 39)), (1, .int (nI O)), (2, .int (nI 4)), (3, .int (nI w)), (4, .int (nI (O ^^^ (O &&& 2 ^ w)))), (5, .int (nI (Ch 4 w))), (6, .int (nI tr))]) hz.1 hz.2.1 dX3_tuneRest_103 hl (k := 7) rfl (nI_add _ 1) (by decide) rfl (fun ls hl => ?_)
                  refine lv_goto (tgt := 59) hz.1 hz.2.1 dX3_tuneRest_106 (by decide) ?_
                  exact ih59 (nt + 1) (gset Cv 5 u1) (by omega) (fun i hi => (gset_ne _ _ (by omega)).trans (hCv i hi)) (gset_lt hCb h2) (fun b hb ht => by rcases Nat.lt_or_ge b nt with q | q; exact hno b q ht; rw [show b = nt by omega]; exact kNB_ok c_86) (by omega) ls H locs hP hS (lv_sub hl [1, 2, 3, 4, 5, 6, 7, 0] rfl)
                · refine lv_aload_n hz.1 hz.2.1 dX3_tuneRest_89 rfl (lv_at hl 0 rfl) ?_
                  refine lv_iload hz.1 hz.2.1 dX3_tuneRest_90 (lv_at hl 4 rfl) ?_
                  refine lv_iload_n hz.1 hz.2.1 dX3_tuneRest_92 rfl (lv_at hl 2 rfl) ?_
                  refine lv_iconst (v := nI 1) hz.1 hz.2.1 dX3_tuneRest_93 (by decide) ?_
                  refine lv_iadd hz.1 hz.2.1 dX3_tuneRest_94 ?_
                  refine toe (z := nI 5) (rfl) ?_
                  refine wrV (A := wA (tu a k Y Nt Sl Mt Ch)) (As := [.int (nI (O ^^^ (O &&& 2 ^ w))), .int (nI 5)]) (rest := []) hz (okAm tS sk sv) (c3_tuneRest_5 l_ D k a tS sk sv Y Nt Sl Mt (gset Cv 5 u1) (O ^^^ (O &&& 2 ^ w)) hH.rest hs (gset_lt hCb h2) (by have := rest_pop o1 w8 wO; omega)) (cwV 2 hz.2.2.2.2 gX3_tuneRest_X3_tuneRest rfl rfl rfl (by decide +kernel) ⟨Nat.le_of_ble_eq_true rfl, Nat.le_of_ble_eq_true rfl⟩) hK hy hP hD hS 0 3 rfl rfl rfl rfl hl.1 rfl (Nat.le_of_ble_eq_true rfl) dX3_tuneRest_95 ⟨Nat.zero_le _, Nat.zero_le _⟩ (fun r u H1 locs hp hP1 hS hfr => ?_)
                  obtain ⟨u2, hren_⟩ : ∃ z_, z_ = u := ⟨u, rfl⟩
                  subst hren_
                  obtain ⟨g1, g2, g3⟩ := hp
                  have e5 : kSolB Mt Sl (O ^^^ (O &&& 2 ^ w)) (gset Cv 5 u1 5) = kSolB Mt Sl (O ^^^ (O &&& 2 ^ w)) (kNw Mt Sl (Ch 4) w nt) := solB_eq (fun v hv ho => by rw [gset_same, h3 c_86, kNr_8 hv ho])
                  rw [e5] at g1
                  obtain rfl : r = bI (kSolB Mt Sl (O ^^^ (O &&& 2 ^ w)) (kNw Mt Sl (Ch 4) w nt)) := g1
                  have hP : va_P D vwCl (tu a k Y Nt Sl Mt u2) H1 := hP1
                  generalize H1 = H at hP hS ⊢
                  have hD : va_D (wA (tu a k Y Nt Sl Mt Ch)) (tu a k Y Nt Sl Mt u2) := hD.same rfl
                  refine zeq (tgt := 103) hz dX3_tuneRest_98 (by decide) (fun c_98 => ?_) (fun c_98 => ?_)
                  · refine lv_iinc (v := nI (nt + 1)) (lv' := [(7, .int (nI (nt + 1))), (0, .ref (a 39)), (1, .int (nI O)), (2, .int (nI 4)), (3, .int (nI w)), (4, .int (nI (O ^^^ (O &&& 2 ^ w)))), (5, .int (nI (Ch 4 w))), (6, .int (nI tr))]) hz.1 hz.2.1 dX3_tuneRest_103 hl (k := 7) rfl (nI_add _ 1) (by decide) rfl (fun ls hl => ?_)
                    refine lv_goto (tgt := 59) hz.1 hz.2.1 dX3_tuneRest_106 (by decide) ?_
                    exact ih59 (nt + 1) u2 (by omega) (fun i hi => (g2 i (by omega)).trans ((gset_ne _ _ (by omega)).trans (hCv i hi))) (g3) (fun b hb ht => by rcases Nat.lt_or_ge b nt with q | q; exact hno b q ht; rw [show b = nt by omega]; exact kSolB_f.mp c_98) (by omega) ls H locs hP hS (lv_sub hl [1, 2, 3, 4, 5, 6, 7, 0] rfl)
                  · refine lv_iconst (v := nI 1) hz.1 hz.2.1 dX3_tuneRest_101 (by decide) ?_
                    exact wr_zret hz hr hlk dX3_tuneRest_102 hS (bI_1 (tr_hit hH w8 wO htr c_63 c_73 (kSolB_t.mp c_98))) u2 hP (⟨rfl, fun i hi => (g2 i (by omega)).trans ((gset_ne _ _ (by omega)).trans (hCv i hi)), g3⟩)
        exact lp_59 _ 0 Ch (by omega) (fun _ _ => rfl) (hC) (fun b hb => absurd hb (Nat.not_lt_zero b)) (Nat.lt_succ_self _) ls _ _ hP hS (lv_sub hl [2, 3, 4, 5, 6, 7, 1, 0] rfl)
      refine lv_iload hz.1 hz.2.1 dX3_tuneRest_40 (lv_at hl 0 rfl) ?_
      refine lv_sipush (v := nI 4095) hz.1 hz.2.1 dX3_tuneRest_42 (by decide) ?_
      refine jne (tgt := 52) hz dX3_tuneRest_45 (by decide) (by omega) (by omega) (fun c_45 => ?_) (fun c_45 => ?_)
      · refine lv_iload hz.1 hz.2.1 dX3_tuneRest_52 (lv_at hl 0 rfl) ?_
        exact jn_54 (Ch 4 w) (kTr_left hH (hC 4 w) w8 wO) ls (lv_sub hl [3, 4, 5, 2, 1, 0] rfl)
      · refine lv_iconst (v := nI 1) hz.1 hz.2.1 dX3_tuneRest_48 (by decide) ?_
        refine lv_goto (tgt := 54) hz.1 hz.2.1 dX3_tuneRest_49 (by decide) ?_
        exact jn_54 1 (kTr_one hH (hC 4) w8 wO wmin c_45) ls (lv_sub hl [3, 4, 5, 2, 1, 0] rfl)
    · exact absurd (by decide) c_9
  · refine lv_iconst (v := nI 1) hz.1 hz.2.1 dX3_tuneRest_4 (by decide) ?_
    exact wr_zret hz hr hlk dX3_tuneRest_5 hS (bI_1 (by rw [c_1]; exact kSolB_t.mpr kSol_0)) Ch hP (⟨rfl, fun _ _ => rfl, hC⟩)

set_option maxHeartbeats 4000000 in
set_option maxRecDepth 100000 in
theorem c3_tuneRest_3 (l_ : Launch) (D : va_G) (k : Nat → ClassId) (a : Nat → Nat) (tS : Nat) (sk sv : Nat → Nat) (Y : Nat → Nat) (Nt : Nat → Nat) (Sl : Nat → Nat) (Mt : Nat → Nat) (Ch : Nat → Nat → Nat) (O : Nat) (hH : kHyp Mt Sl O) (hs : ∀ v, Sl v < 2) (hC : ∀ i v, Ch i v < 4096) (hp0 : sPop O + 3 ≤ 8) : Met l_ yX3_tuneRest wsX3_tuneRest ({ frames := 6, cells := 0, slots := 0, locals := 159 }) (va_Pc [.ref (a 39), .int (nI O), .int (nI 3)] (wH (Am tS sk sv) D k (tu a k Y Nt Sl Mt Ch))) (va_Qi (fun (r : Int32) (u : Nat → Nat → Nat) => r = bI (kSolB Mt Sl O (Ch 3)) ∧ (∀ i, i ≤ 3 → u i = Ch i) ∧ (∀ i v, u i v < 4096)) (fun (u : Nat → Nat → Nat) (t_ : State) => va_P D vwCl ((fun (u : Nat → Nat → Nat) => tu a k Y Nt Sl Mt u) u) t_.heap) (wA (tu a k Y Nt Sl Mt Ch))) 0 0 (wA (tu a k Y Nt Sl Mt Ch)) := by
  refine my_entry (cc := cX3_tuneRest) (maxL := 8) (ret := some .boolean) (by decide) rfl (Nat.le_of_ble_eq_true rfl) ?_
  intro p_ e_ s_ m_ bl_ me_ c_ hz hr hlk hB ls hl
  obtain ⟨hP, hK, hD0, hy⟩ := hB
  have hD := wA.self hD0
  have hS : va_S (wA (tu a k Y Nt Sl Mt Ch)) s_.heap s_.heap [] := va_S.rf
  have hl : lv_has ls 8 [(0, .ref (a 39)), (1, .int (nI O)), (2, .int (nI 3))] := hl
  have o1 := hH.1
  refine lv_iload_n hz.1 hz.2.1 dX3_tuneRest_0 rfl (lv_at hl 1 rfl) ?_
  refine jne0 (tgt := 6) hz dX3_tuneRest_1 (by decide) (by omega) (fun c_1 => ?_) (fun c_1 => ?_)
  · refine lv_iload_n hz.1 hz.2.1 dX3_tuneRest_6 rfl (lv_at hl 2 rfl) ?_
    refine lv_bipush (v := nI 8) hz.1 hz.2.1 dX3_tuneRest_7 (by decide) ?_
    refine jlt (tgt := 14) hz dX3_tuneRest_9 (by decide) (by omega) (by omega) (fun c_9 => ?_) (fun c_9 => ?_)
    · refine lv_aload_n hz.1 hz.2.1 dX3_tuneRest_14 rfl (lv_at hl 0 rfl) ?_
      refine lv_iload_n hz.1 hz.2.1 dX3_tuneRest_15 rfl (lv_at hl 1 rfl) ?_
      refine lv_iload_n hz.1 hz.2.1 dX3_tuneRest_16 rfl (lv_at hl 2 rfl) ?_
      refine rdV (A := wA (tu a k Y Nt Sl Mt Ch)) (As := [.int (nI O), .int (nI 3)]) (rest := []) hz (okAm tS sk sv) (c3_mostBound l_ D k a tS sk sv Y Nt Sl Mt Ch O 3 o1 (by decide) hC) (cwV 2 hz.2.2.2.2 gX3_tuneRest_X3_mostBound rfl rfl rfl (by decide +kernel) ⟨Nat.le_of_ble_eq_true rfl, Nat.le_of_ble_eq_true rfl⟩) hK hy hP hD hS 0 3 rfl rfl rfl rfl hl.1 rfl (Nat.le_of_ble_eq_true rfl) dX3_tuneRest_17 ⟨Nat.zero_le _, Nat.zero_le _⟩ ?_
      have mb := kMb_end o1 c_1 (fun w _ => hC 3 w)
      generalize (kMb O (Ch 3) 8).1 = w at mb ⊢
      obtain ⟨w8, wO, wmin⟩ := mb
      refine lv_istore_n (lv' := [(3, .int (nI w)), (0, .ref (a 39)), (1, .int (nI O)), (2, .int (nI 3))]) hz.1 hz.2.1 dX3_tuneRest_20 rfl hl (by decide) rfl (fun ls hl => ?_)
      refine lv_iload_n hz.1 hz.2.1 dX3_tuneRest_21 rfl (lv_at hl 2 rfl) ?_
      refine lv_iconst (v := nI 1) hz.1 hz.2.1 dX3_tuneRest_22 (by decide) ?_
      refine lv_iload_n hz.1 hz.2.1 dX3_tuneRest_23 rfl (lv_at hl 0 rfl) ?_
      refine lv_ishl hz.1 hz.2.1 dX3_tuneRest_24 ?_
      refine toe (z := nI (2 ^ w)) (nI_shl1 (by omega)) ?_
      refine lv_iconst (v := (-1)) hz.1 hz.2.1 dX3_tuneRest_25 (by decide) ?_
      refine lv_ixor hz.1 hz.2.1 dX3_tuneRest_26 ?_
      refine lv_iand hz.1 hz.2.1 dX3_tuneRest_27 ?_
      refine toe (z := nI (O ^^^ (O &&& 2 ^ w))) (nI_andnot _ _) ?_
      refine lv_istore (lv' := [(4, .int (nI (O ^^^ (O &&& 2 ^ w)))), (3, .int (nI w)), (0, .ref (a 39)), (1, .int (nI O)), (2, .int (nI 3))]) hz.1 hz.2.1 dX3_tuneRest_28 hl (by decide) rfl (fun ls hl => ?_)
      refine lv_aload_n hz.1 hz.2.1 dX3_tuneRest_30 rfl (lv_at hl 2 rfl) ?_
      refine rg (T := TX3) (N := 5) hz hinX3_tuneRest_X3 hK hP 0 rfl rfl 3 (by decide) (List.mem_of_getElem? (i := 1) rfl) rfl (v := .ref (a 43)) rfl dX3_tuneRest_31 ?_
      refine lv_iload_n hz.1 hz.2.1 dX3_tuneRest_34 rfl (lv_at hl 4 rfl) ?_
      refine rald4 hz hK hP 4 rfl (i := 3) (v := a 47) (by omega) (by decide) (if_pos (by omega)) dX3_tuneRest_35 ?_
      refine lv_iload_n hz.1 hz.2.1 dX3_tuneRest_36 rfl (lv_at hl 1 rfl) ?_
      refine rald hz hK hP 8 0 rfl rfl (i := w) (by omega) (by decide) (v := nI (Ch 3 w)) rfl dX3_tuneRest_37 ?_
      have c1 := hC 3 w
      refine lv_istore (lv' := [(5, .int (nI (Ch 3 w))), (4, .int (nI (O ^^^ (O &&& 2 ^ w)))), (3, .int (nI w)), (0, .ref (a 39)), (1, .int (nI O)), (2, .int (nI 3))]) hz.1 hz.2.1 dX3_tuneRest_38 hl (by decide) rfl (fun ls hl => ?_)
      have jn_54 : ∀ (tr : Nat), (kTr Mt Sl (Ch 3) O w tr) → ∀ ls : Array Slot, lv_has ls 8 [(0, .ref (a 39)), (1, .int (nI O)), (2, .int (nI 3)), (3, .int (nI w)), (4, .int (nI (O ^^^ (O &&& 2 ^ w)))), (5, .int (nI (Ch 3 w)))] → W p_ l_ e_ ({ frames := 6, cells := 0, slots := 0, locals := 159 }) s_ m_ [.ref (a 39), .int (nI O), .int (nI 3)].toArray bl_ me_ c_ s_.heap [] 0 0 (MQ bl_ (va_Qi (fun (r : Int32) (u : Nat → Nat → Nat) => r = bI (kSolB Mt Sl O (Ch 3)) ∧ (∀ i, i ≤ 3 → u i = Ch i) ∧ (∀ i v, u i v < 4096)) (fun (u : Nat → Nat → Nat) (t_ : State) => va_P D vwCl ((fun (u : Nat → Nat → Nat) => tu a k Y Nt Sl Mt u) u) t_.heap) (wA (tu a k Y Nt Sl Mt Ch))) [.ref (a 39), .int (nI O), .int (nI 3)].toArray s_ 0 0 (wA (tu a k Y Nt Sl Mt Ch))) (F0 m_ 54 ls [.int (nI tr)]) := by
        intro tr htr ls hl
        refine lv_istore (lv' := [(6, .int (nI tr)), (0, .ref (a 39)), (1, .int (nI O)), (2, .int (nI 3)), (3, .int (nI w)), (4, .int (nI (O ^^^ (O &&& 2 ^ w)))), (5, .int (nI (Ch 3 w)))]) hz.1 hz.2.1 dX3_tuneRest_54 hl (by decide) rfl (fun ls hl => ?_)
        refine lv_iconst (v := nI 0) hz.1 hz.2.1 dX3_tuneRest_56 (by decide) ?_
        refine lv_istore (lv' := [(7, .int (nI 0)), (6, .int (nI tr)), (0, .ref (a 39)), (1, .int (nI O)), (2, .int (nI 3)), (3, .int (nI w)), (4, .int (nI (O ^^^ (O &&& 2 ^ w)))), (5, .int (nI (Ch 3 w)))]) hz.1 hz.2.1 dX3_tuneRest_57 hl (by decide) rfl (fun ls hl => ?_)
        have lp_59 : ∀ (fu : Nat) (nt : Nat) (Cv : Nat → Nat → Nat), (nt ≤ 12) → (∀ i, i ≤ 3 → Cv i = Ch i) → (∀ i v, Cv i v < 4096) → (∀ b, b < nt → tr.testBit b = true → ¬ kSol Mt Sl (O ^^^ (O &&& 2 ^ w)) (kNw Mt Sl (Ch 3) w b)) → 12 - nt < fu → ∀ ls : Array Slot, ∀ (H : Heap) (locs : List Loc), va_P D vwCl (tu a k Y Nt Sl Mt Cv) H → va_S (wA (tu a k Y Nt Sl Mt Ch)) s_.heap H locs → lv_has ls 8 [(0, .ref (a 39)), (1, .int (nI O)), (2, .int (nI 3)), (3, .int (nI w)), (4, .int (nI (O ^^^ (O &&& 2 ^ w)))), (5, .int (nI (Ch 3 w))), (6, .int (nI tr)), (7, .int (nI nt))] → W p_ l_ e_ ({ frames := 6, cells := 0, slots := 0, locals := 159 }) s_ m_ [.ref (a 39), .int (nI O), .int (nI 3)].toArray bl_ me_ c_ H locs 0 0 (MQ bl_ (va_Qi (fun (r : Int32) (u : Nat → Nat → Nat) => r = bI (kSolB Mt Sl O (Ch 3)) ∧ (∀ i, i ≤ 3 → u i = Ch i) ∧ (∀ i v, u i v < 4096)) (fun (u : Nat → Nat → Nat) (t_ : State) => va_P D vwCl ((fun (u : Nat → Nat → Nat) => tu a k Y Nt Sl Mt u) u) t_.heap) (wA (tu a k Y Nt Sl Mt Ch))) [.ref (a 39), .int (nI O), .int (nI 3)].toArray s_ 0 0 (wA (tu a k Y Nt Sl Mt Ch))) (F0 m_ 59 ls []) := by
          intro fu
          induction fu with
          | zero => intro nt Cv hnt hCv hCb hno hm; exact absurd hm (Nat.not_lt_zero _)
          | succ fu ih59 =>
            intro nt Cv hnt hCv hCb hno hm ls H locs hP hS hl
            have hD : va_D (wA (tu a k Y Nt Sl Mt Ch)) (tu a k Y Nt Sl Mt Cv) := hD.same rfl
            refine lv_iload hz.1 hz.2.1 dX3_tuneRest_59 (lv_at hl 7 rfl) ?_
            refine lv_bipush (v := nI 12) hz.1 hz.2.1 dX3_tuneRest_61 (by decide) ?_
            refine jge (tgt := 109) hz dX3_tuneRest_63 (by decide) (by omega) (by omega) (fun c_63 => ?_) (fun c_63 => ?_)
            · obtain rfl : nt = 12 := by omega
              refine lv_iconst (v := nI 0) hz.1 hz.2.1 dX3_tuneRest_109 (by decide) ?_
              exact wr_zret hz hr hlk dX3_tuneRest_110 hS (bI_0 (tr_end htr (fun b hb => hno b (by omega)))) Cv hP (⟨rfl, hCv, hCb⟩)
            · have t1 := htr.1
              have r1 : (O ^^^ (O &&& 2 ^ w)) < 256 := Nat.lt_of_le_of_lt (andnot_le _ _) o1
              refine lv_iload hz.1 hz.2.1 dX3_tuneRest_66 (lv_at hl 6 rfl) ?_
              refine lv_iload hz.1 hz.2.1 dX3_tuneRest_68 (lv_at hl 7 rfl) ?_
              refine rdSN (n := 2) (As := [.int (nI tr), .int (nI nt)]) (rest := []) hz (c5_has l_ tr nt (by omega) (by omega)) rfl gX3_tuneRest_X5_has_n68 rfl ⟨rfl, rfl⟩ hy (List.mem_of_getElem? (i := 6) rfl) (List.mem_of_getElem? (i := 15) rfl) (List.mem_of_getElem? (i := 14) rfl) (by decide +kernel) ⟨Nat.le_of_ble_eq_true rfl, Nat.le_of_ble_eq_true rfl⟩ rfl hl.1 rfl (Nat.le_of_ble_eq_true rfl) dX3_tuneRest_70 ⟨Nat.zero_le _, Nat.zero_le _⟩ ?_
              refine zeq (tgt := 103) hz dX3_tuneRest_73 (by decide) (fun c_73 => ?_) (fun c_73 => ?_)
              · refine lv_iinc (v := nI (nt + 1)) (lv' := [(7, .int (nI (nt + 1))), (0, .ref (a 39)), (1, .int (nI O)), (2, .int (nI 3)), (3, .int (nI w)), (4, .int (nI (O ^^^ (O &&& 2 ^ w)))), (5, .int (nI (Ch 3 w))), (6, .int (nI tr))]) hz.1 hz.2.1 dX3_tuneRest_103 hl (k := 7) rfl (nI_add _ 1) (by decide) rfl (fun ls hl => ?_)
                refine lv_goto (tgt := 59) hz.1 hz.2.1 dX3_tuneRest_106 (by decide) ?_
                exact ih59 (nt + 1) Cv (by omega) (hCv) (hCb) (fun b hb ht => by rcases Nat.lt_or_ge b nt with q | q; exact hno b q ht; rw [show b = nt by omega] at ht; exact absurd (c_73.symm.trans ht) (by decide)) (by omega) ls H locs hP hS (lv_sub hl [1, 2, 3, 4, 5, 6, 7, 0] rfl)
              · refine lv_aload_n hz.1 hz.2.1 dX3_tuneRest_76 rfl (lv_at hl 0 rfl) ?_
                refine lv_iload_n hz.1 hz.2.1 dX3_tuneRest_77 rfl (lv_at hl 3 rfl) ?_
                refine lv_iload hz.1 hz.2.1 dX3_tuneRest_78 (lv_at hl 7 rfl) ?_
                refine lv_iload hz.1 hz.2.1 dX3_tuneRest_80 (lv_at hl 4 rfl) ?_
                refine lv_iload_n hz.1 hz.2.1 dX3_tuneRest_82 rfl (lv_at hl 2 rfl) ?_
                refine wrV (A := wA (tu a k Y Nt Sl Mt Ch)) (As := [.int (nI w), .int (nI nt), .int (nI (O ^^^ (O &&& 2 ^ w))), .int (nI 3)]) (rest := []) hz (okAm tS sk sv) (c3_narrows l_ D k a tS sk sv Y Nt Sl Mt Cv w nt (O ^^^ (O &&& 2 ^ w)) 3 w8 (by omega) r1 (by decide) hs (hH.2.2.1 w w8 wO) hCb) (cwV 4 hz.2.2.2.2 gX3_tuneRest_X3_narrows rfl rfl rfl (by decide +kernel) ⟨Nat.le_of_ble_eq_true rfl, Nat.le_of_ble_eq_true rfl⟩) hK hy hP hD hS 0 3 rfl rfl rfl rfl hl.1 rfl (Nat.le_of_ble_eq_true rfl) dX3_tuneRest_83 ⟨Nat.zero_le _, Nat.zero_le _⟩ (fun r u H1 locs hp hP1 hS hfr => ?_)
                obtain ⟨u1, hren_⟩ : ∃ z_, z_ = u := ⟨u, rfl⟩
                subst hren_
                obtain ⟨h1, h2, h3⟩ := hp
                have eD : Cv 3 = Ch 3 := hCv 3 (Nat.le_refl _)
                rw [eD] at h1 h3
                obtain rfl : r = bI (sAll (kNB Mt Sl (Ch 3) (O ^^^ (O &&& 2 ^ w)) w nt) 8) := h1
                have hP : va_P D vwCl (tu a k Y Nt Sl Mt (gset Cv 4 u1)) H1 := hP1
                generalize H1 = H at hP hS ⊢
                have hD : va_D (wA (tu a k Y Nt Sl Mt Ch)) (tu a k Y Nt Sl Mt (gset Cv 4 u1)) := hD.same rfl
                refine zeq (tgt := 103) hz dX3_tuneRest_86 (by decide) (fun c_86 => ?_) (fun c_86 => ?_)
                · refine lv_iinc (v := nI (nt + 1)) (lv' := [(7, .int (nI (nt + 1))), (0, .ref (a 39)), (1, .int (nI O)), (2, .int (nI 3)), (3, .int (nI w)), (4, .int (nI (O ^^^ (O &&& 2 ^ w)))), (5, .int (nI (Ch 3 w))), (6, .int (nI tr))]) hz.1 hz.2.1 dX3_tuneRest_103 hl (k := 7) rfl (nI_add _ 1) (by decide) rfl (fun ls hl => ?_)
                  refine lv_goto (tgt := 59) hz.1 hz.2.1 dX3_tuneRest_106 (by decide) ?_
                  exact ih59 (nt + 1) (gset Cv 4 u1) (by omega) (fun i hi => (gset_ne _ _ (by omega)).trans (hCv i hi)) (gset_lt hCb h2) (fun b hb ht => by rcases Nat.lt_or_ge b nt with q | q; exact hno b q ht; rw [show b = nt by omega]; exact kNB_ok c_86) (by omega) ls H locs hP hS (lv_sub hl [1, 2, 3, 4, 5, 6, 7, 0] rfl)
                · refine lv_aload_n hz.1 hz.2.1 dX3_tuneRest_89 rfl (lv_at hl 0 rfl) ?_
                  refine lv_iload hz.1 hz.2.1 dX3_tuneRest_90 (lv_at hl 4 rfl) ?_
                  refine lv_iload_n hz.1 hz.2.1 dX3_tuneRest_92 rfl (lv_at hl 2 rfl) ?_
                  refine lv_iconst (v := nI 1) hz.1 hz.2.1 dX3_tuneRest_93 (by decide) ?_
                  refine lv_iadd hz.1 hz.2.1 dX3_tuneRest_94 ?_
                  refine toe (z := nI 4) (rfl) ?_
                  refine wrV (A := wA (tu a k Y Nt Sl Mt Ch)) (As := [.int (nI (O ^^^ (O &&& 2 ^ w))), .int (nI 4)]) (rest := []) hz (okAm tS sk sv) (c3_tuneRest_4 l_ D k a tS sk sv Y Nt Sl Mt (gset Cv 4 u1) (O ^^^ (O &&& 2 ^ w)) hH.rest hs (gset_lt hCb h2) (by have := rest_pop o1 w8 wO; omega)) (cwV 2 hz.2.2.2.2 gX3_tuneRest_X3_tuneRest rfl rfl rfl (by decide +kernel) ⟨Nat.le_of_ble_eq_true rfl, Nat.le_of_ble_eq_true rfl⟩) hK hy hP hD hS 0 3 rfl rfl rfl rfl hl.1 rfl (Nat.le_of_ble_eq_true rfl) dX3_tuneRest_95 ⟨Nat.zero_le _, Nat.zero_le _⟩ (fun r u H1 locs hp hP1 hS hfr => ?_)
                  obtain ⟨u2, hren_⟩ : ∃ z_, z_ = u := ⟨u, rfl⟩
                  subst hren_
                  obtain ⟨g1, g2, g3⟩ := hp
                  have e5 : kSolB Mt Sl (O ^^^ (O &&& 2 ^ w)) (gset Cv 4 u1 4) = kSolB Mt Sl (O ^^^ (O &&& 2 ^ w)) (kNw Mt Sl (Ch 3) w nt) := solB_eq (fun v hv ho => by rw [gset_same, h3 c_86, kNr_8 hv ho])
                  rw [e5] at g1
                  obtain rfl : r = bI (kSolB Mt Sl (O ^^^ (O &&& 2 ^ w)) (kNw Mt Sl (Ch 3) w nt)) := g1
                  have hP : va_P D vwCl (tu a k Y Nt Sl Mt u2) H1 := hP1
                  generalize H1 = H at hP hS ⊢
                  have hD : va_D (wA (tu a k Y Nt Sl Mt Ch)) (tu a k Y Nt Sl Mt u2) := hD.same rfl
                  refine zeq (tgt := 103) hz dX3_tuneRest_98 (by decide) (fun c_98 => ?_) (fun c_98 => ?_)
                  · refine lv_iinc (v := nI (nt + 1)) (lv' := [(7, .int (nI (nt + 1))), (0, .ref (a 39)), (1, .int (nI O)), (2, .int (nI 3)), (3, .int (nI w)), (4, .int (nI (O ^^^ (O &&& 2 ^ w)))), (5, .int (nI (Ch 3 w))), (6, .int (nI tr))]) hz.1 hz.2.1 dX3_tuneRest_103 hl (k := 7) rfl (nI_add _ 1) (by decide) rfl (fun ls hl => ?_)
                    refine lv_goto (tgt := 59) hz.1 hz.2.1 dX3_tuneRest_106 (by decide) ?_
                    exact ih59 (nt + 1) u2 (by omega) (fun i hi => (g2 i (by omega)).trans ((gset_ne _ _ (by omega)).trans (hCv i hi))) (g3) (fun b hb ht => by rcases Nat.lt_or_ge b nt with q | q; exact hno b q ht; rw [show b = nt by omega]; exact kSolB_f.mp c_98) (by omega) ls H locs hP hS (lv_sub hl [1, 2, 3, 4, 5, 6, 7, 0] rfl)
                  · refine lv_iconst (v := nI 1) hz.1 hz.2.1 dX3_tuneRest_101 (by decide) ?_
                    exact wr_zret hz hr hlk dX3_tuneRest_102 hS (bI_1 (tr_hit hH w8 wO htr c_63 c_73 (kSolB_t.mp c_98))) u2 hP (⟨rfl, fun i hi => (g2 i (by omega)).trans ((gset_ne _ _ (by omega)).trans (hCv i hi)), g3⟩)
        exact lp_59 _ 0 Ch (by omega) (fun _ _ => rfl) (hC) (fun b hb => absurd hb (Nat.not_lt_zero b)) (Nat.lt_succ_self _) ls _ _ hP hS (lv_sub hl [2, 3, 4, 5, 6, 7, 1, 0] rfl)
      refine lv_iload hz.1 hz.2.1 dX3_tuneRest_40 (lv_at hl 0 rfl) ?_
      refine lv_sipush (v := nI 4095) hz.1 hz.2.1 dX3_tuneRest_42 (by decide) ?_
      refine jne (tgt := 52) hz dX3_tuneRest_45 (by decide) (by omega) (by omega) (fun c_45 => ?_) (fun c_45 => ?_)
      · refine lv_iload hz.1 hz.2.1 dX3_tuneRest_52 (lv_at hl 0 rfl) ?_
        exact jn_54 (Ch 3 w) (kTr_left hH (hC 3 w) w8 wO) ls (lv_sub hl [3, 4, 5, 2, 1, 0] rfl)
      · refine lv_iconst (v := nI 1) hz.1 hz.2.1 dX3_tuneRest_48 (by decide) ?_
        refine lv_goto (tgt := 54) hz.1 hz.2.1 dX3_tuneRest_49 (by decide) ?_
        exact jn_54 1 (kTr_one hH (hC 3) w8 wO wmin c_45) ls (lv_sub hl [3, 4, 5, 2, 1, 0] rfl)
    · exact absurd (by decide) c_9
  · refine lv_iconst (v := nI 1) hz.1 hz.2.1 dX3_tuneRest_4 (by decide) ?_
    exact wr_zret hz hr hlk dX3_tuneRest_5 hS (bI_1 (by rw [c_1]; exact kSolB_t.mpr kSol_0)) Ch hP (⟨rfl, fun _ _ => rfl, hC⟩)

set_option maxHeartbeats 4000000 in
set_option maxRecDepth 100000 in
theorem c3_tuneRest_2 (l_ : Launch) (D : va_G) (k : Nat → ClassId) (a : Nat → Nat) (tS : Nat) (sk sv : Nat → Nat) (Y : Nat → Nat) (Nt : Nat → Nat) (Sl : Nat → Nat) (Mt : Nat → Nat) (Ch : Nat → Nat → Nat) (O : Nat) (hH : kHyp Mt Sl O) (hs : ∀ v, Sl v < 2) (hC : ∀ i v, Ch i v < 4096) (hp0 : sPop O + 2 ≤ 8) : Met l_ yX3_tuneRest wsX3_tuneRest ({ frames := 7, cells := 0, slots := 0, locals := 186 }) (va_Pc [.ref (a 39), .int (nI O), .int (nI 2)] (wH (Am tS sk sv) D k (tu a k Y Nt Sl Mt Ch))) (va_Qi (fun (r : Int32) (u : Nat → Nat → Nat) => r = bI (kSolB Mt Sl O (Ch 2)) ∧ (∀ i, i ≤ 2 → u i = Ch i) ∧ (∀ i v, u i v < 4096)) (fun (u : Nat → Nat → Nat) (t_ : State) => va_P D vwCl ((fun (u : Nat → Nat → Nat) => tu a k Y Nt Sl Mt u) u) t_.heap) (wA (tu a k Y Nt Sl Mt Ch))) 0 0 (wA (tu a k Y Nt Sl Mt Ch)) := by
  refine my_entry (cc := cX3_tuneRest) (maxL := 8) (ret := some .boolean) (by decide) rfl (Nat.le_of_ble_eq_true rfl) ?_
  intro p_ e_ s_ m_ bl_ me_ c_ hz hr hlk hB ls hl
  obtain ⟨hP, hK, hD0, hy⟩ := hB
  have hD := wA.self hD0
  have hS : va_S (wA (tu a k Y Nt Sl Mt Ch)) s_.heap s_.heap [] := va_S.rf
  have hl : lv_has ls 8 [(0, .ref (a 39)), (1, .int (nI O)), (2, .int (nI 2))] := hl
  have o1 := hH.1
  refine lv_iload_n hz.1 hz.2.1 dX3_tuneRest_0 rfl (lv_at hl 1 rfl) ?_
  refine jne0 (tgt := 6) hz dX3_tuneRest_1 (by decide) (by omega) (fun c_1 => ?_) (fun c_1 => ?_)
  · refine lv_iload_n hz.1 hz.2.1 dX3_tuneRest_6 rfl (lv_at hl 2 rfl) ?_
    refine lv_bipush (v := nI 8) hz.1 hz.2.1 dX3_tuneRest_7 (by decide) ?_
    refine jlt (tgt := 14) hz dX3_tuneRest_9 (by decide) (by omega) (by omega) (fun c_9 => ?_) (fun c_9 => ?_)
    · refine lv_aload_n hz.1 hz.2.1 dX3_tuneRest_14 rfl (lv_at hl 0 rfl) ?_
      refine lv_iload_n hz.1 hz.2.1 dX3_tuneRest_15 rfl (lv_at hl 1 rfl) ?_
      refine lv_iload_n hz.1 hz.2.1 dX3_tuneRest_16 rfl (lv_at hl 2 rfl) ?_
      refine rdV (A := wA (tu a k Y Nt Sl Mt Ch)) (As := [.int (nI O), .int (nI 2)]) (rest := []) hz (okAm tS sk sv) (c3_mostBound l_ D k a tS sk sv Y Nt Sl Mt Ch O 2 o1 (by decide) hC) (cwV 2 hz.2.2.2.2 gX3_tuneRest_X3_mostBound rfl rfl rfl (by decide +kernel) ⟨Nat.le_of_ble_eq_true rfl, Nat.le_of_ble_eq_true rfl⟩) hK hy hP hD hS 0 3 rfl rfl rfl rfl hl.1 rfl (Nat.le_of_ble_eq_true rfl) dX3_tuneRest_17 ⟨Nat.zero_le _, Nat.zero_le _⟩ ?_
      have mb := kMb_end o1 c_1 (fun w _ => hC 2 w)
      generalize (kMb O (Ch 2) 8).1 = w at mb ⊢
      obtain ⟨w8, wO, wmin⟩ := mb
      refine lv_istore_n (lv' := [(3, .int (nI w)), (0, .ref (a 39)), (1, .int (nI O)), (2, .int (nI 2))]) hz.1 hz.2.1 dX3_tuneRest_20 rfl hl (by decide) rfl (fun ls hl => ?_)
      refine lv_iload_n hz.1 hz.2.1 dX3_tuneRest_21 rfl (lv_at hl 2 rfl) ?_
      refine lv_iconst (v := nI 1) hz.1 hz.2.1 dX3_tuneRest_22 (by decide) ?_
      refine lv_iload_n hz.1 hz.2.1 dX3_tuneRest_23 rfl (lv_at hl 0 rfl) ?_
      refine lv_ishl hz.1 hz.2.1 dX3_tuneRest_24 ?_
      refine toe (z := nI (2 ^ w)) (nI_shl1 (by omega)) ?_
      refine lv_iconst (v := (-1)) hz.1 hz.2.1 dX3_tuneRest_25 (by decide) ?_
      refine lv_ixor hz.1 hz.2.1 dX3_tuneRest_26 ?_
      refine lv_iand hz.1 hz.2.1 dX3_tuneRest_27 ?_
      refine toe (z := nI (O ^^^ (O &&& 2 ^ w))) (nI_andnot _ _) ?_
      refine lv_istore (lv' := [(4, .int (nI (O ^^^ (O &&& 2 ^ w)))), (3, .int (nI w)), (0, .ref (a 39)), (1, .int (nI O)), (2, .int (nI 2))]) hz.1 hz.2.1 dX3_tuneRest_28 hl (by decide) rfl (fun ls hl => ?_)
      refine lv_aload_n hz.1 hz.2.1 dX3_tuneRest_30 rfl (lv_at hl 2 rfl) ?_
      refine rg (T := TX3) (N := 5) hz hinX3_tuneRest_X3 hK hP 0 rfl rfl 3 (by decide) (List.mem_of_getElem? (i := 1) rfl) rfl (v := .ref (a 43)) rfl dX3_tuneRest_31 ?_
      refine lv_iload_n hz.1 hz.2.1 dX3_tuneRest_34 rfl (lv_at hl 4 rfl) ?_
      refine rald4 hz hK hP 4 rfl (i := 2) (v := a 46) (by omega) (by decide) (if_pos (by omega)) dX3_tuneRest_35 ?_
      refine lv_iload_n hz.1 hz.2.1 dX3_tuneRest_36 rfl (lv_at hl 1 rfl) ?_
      refine rald hz hK hP 7 0 rfl rfl (i := w) (by omega) (by decide) (v := nI (Ch 2 w)) rfl dX3_tuneRest_37 ?_
      have c1 := hC 2 w
      refine lv_istore (lv' := [(5, .int (nI (Ch 2 w))), (4, .int (nI (O ^^^ (O &&& 2 ^ w)))), (3, .int (nI w)), (0, .ref (a 39)), (1, .int (nI O)), (2, .int (nI 2))]) hz.1 hz.2.1 dX3_tuneRest_38 hl (by decide) rfl (fun ls hl => ?_)
      have jn_54 : ∀ (tr : Nat), (kTr Mt Sl (Ch 2) O w tr) → ∀ ls : Array Slot, lv_has ls 8 [(0, .ref (a 39)), (1, .int (nI O)), (2, .int (nI 2)), (3, .int (nI w)), (4, .int (nI (O ^^^ (O &&& 2 ^ w)))), (5, .int (nI (Ch 2 w)))] → W p_ l_ e_ ({ frames := 7, cells := 0, slots := 0, locals := 186 }) s_ m_ [.ref (a 39), .int (nI O), .int (nI 2)].toArray bl_ me_ c_ s_.heap [] 0 0 (MQ bl_ (va_Qi (fun (r : Int32) (u : Nat → Nat → Nat) => r = bI (kSolB Mt Sl O (Ch 2)) ∧ (∀ i, i ≤ 2 → u i = Ch i) ∧ (∀ i v, u i v < 4096)) (fun (u : Nat → Nat → Nat) (t_ : State) => va_P D vwCl ((fun (u : Nat → Nat → Nat) => tu a k Y Nt Sl Mt u) u) t_.heap) (wA (tu a k Y Nt Sl Mt Ch))) [.ref (a 39), .int (nI O), .int (nI 2)].toArray s_ 0 0 (wA (tu a k Y Nt Sl Mt Ch))) (F0 m_ 54 ls [.int (nI tr)]) := by
        intro tr htr ls hl
        refine lv_istore (lv' := [(6, .int (nI tr)), (0, .ref (a 39)), (1, .int (nI O)), (2, .int (nI 2)), (3, .int (nI w)), (4, .int (nI (O ^^^ (O &&& 2 ^ w)))), (5, .int (nI (Ch 2 w)))]) hz.1 hz.2.1 dX3_tuneRest_54 hl (by decide) rfl (fun ls hl => ?_)
        refine lv_iconst (v := nI 0) hz.1 hz.2.1 dX3_tuneRest_56 (by decide) ?_
        refine lv_istore (lv' := [(7, .int (nI 0)), (6, .int (nI tr)), (0, .ref (a 39)), (1, .int (nI O)), (2, .int (nI 2)), (3, .int (nI w)), (4, .int (nI (O ^^^ (O &&& 2 ^ w)))), (5, .int (nI (Ch 2 w)))]) hz.1 hz.2.1 dX3_tuneRest_57 hl (by decide) rfl (fun ls hl => ?_)
        have lp_59 : ∀ (fu : Nat) (nt : Nat) (Cv : Nat → Nat → Nat), (nt ≤ 12) → (∀ i, i ≤ 2 → Cv i = Ch i) → (∀ i v, Cv i v < 4096) → (∀ b, b < nt → tr.testBit b = true → ¬ kSol Mt Sl (O ^^^ (O &&& 2 ^ w)) (kNw Mt Sl (Ch 2) w b)) → 12 - nt < fu → ∀ ls : Array Slot, ∀ (H : Heap) (locs : List Loc), va_P D vwCl (tu a k Y Nt Sl Mt Cv) H → va_S (wA (tu a k Y Nt Sl Mt Ch)) s_.heap H locs → lv_has ls 8 [(0, .ref (a 39)), (1, .int (nI O)), (2, .int (nI 2)), (3, .int (nI w)), (4, .int (nI (O ^^^ (O &&& 2 ^ w)))), (5, .int (nI (Ch 2 w))), (6, .int (nI tr)), (7, .int (nI nt))] → W p_ l_ e_ ({ frames := 7, cells := 0, slots := 0, locals := 186 }) s_ m_ [.ref (a 39), .int (nI O), .int (nI 2)].toArray bl_ me_ c_ H locs 0 0 (MQ bl_ (va_Qi (fun (r : Int32) (u : Nat → Nat → Nat) => r = bI (kSolB Mt Sl O (Ch 2)) ∧ (∀ i, i ≤ 2 → u i = Ch i) ∧ (∀ i v, u i v < 4096)) (fun (u : Nat → Nat → Nat) (t_ : State) => va_P D vwCl ((fun (u : Nat → Nat → Nat) => tu a k Y Nt Sl Mt u) u) t_.heap) (wA (tu a k Y Nt Sl Mt Ch))) [.ref (a 39), .int (nI O), .int (nI 2)].toArray s_ 0 0 (wA (tu a k Y Nt Sl Mt Ch))) (F0 m_ 59 ls []) := by
          intro fu
          induction fu with
          | zero => intro nt Cv hnt hCv hCb hno hm; exact absurd hm (Nat.not_lt_zero _)
          | succ fu ih59 =>
            intro nt Cv hnt hCv hCb hno hm ls H locs hP hS hl
            have hD : va_D (wA (tu a k Y Nt Sl Mt Ch)) (tu a k Y Nt Sl Mt Cv) := hD.same rfl
            refine lv_iload hz.1 hz.2.1 dX3_tuneRest_59 (lv_at hl 7 rfl) ?_
            refine lv_bipush (v := nI 12) hz.1 hz.2.1 dX3_tuneRest_61 (by decide) ?_
            refine jge (tgt := 109) hz dX3_tuneRest_63 (by decide) (by omega) (by omega) (fun c_63 => ?_) (fun c_63 => ?_)
            · obtain rfl : nt = 12 := by omega
              refine lv_iconst (v := nI 0) hz.1 hz.2.1 dX3_tuneRest_109 (by decide) ?_
              exact wr_zret hz hr hlk dX3_tuneRest_110 hS (bI_0 (tr_end htr (fun b hb => hno b (by omega)))) Cv hP (⟨rfl, hCv, hCb⟩)
            · have t1 := htr.1
              have r1 : (O ^^^ (O &&& 2 ^ w)) < 256 := Nat.lt_of_le_of_lt (andnot_le _ _) o1
              refine lv_iload hz.1 hz.2.1 dX3_tuneRest_66 (lv_at hl 6 rfl) ?_
              refine lv_iload hz.1 hz.2.1 dX3_tuneRest_68 (lv_at hl 7 rfl) ?_
              refine rdSN (n := 2) (As := [.int (nI tr), .int (nI nt)]) (rest := []) hz (c5_has l_ tr nt (by omega) (by omega)) rfl gX3_tuneRest_X5_has_n68 rfl ⟨rfl, rfl⟩ hy (List.mem_of_getElem? (i := 6) rfl) (List.mem_of_getElem? (i := 15) rfl) (List.mem_of_getElem? (i := 14) rfl) (by decide +kernel) ⟨Nat.le_of_ble_eq_true rfl, Nat.le_of_ble_eq_true rfl⟩ rfl hl.1 rfl (Nat.le_of_ble_eq_true rfl) dX3_tuneRest_70 ⟨Nat.zero_le _, Nat.zero_le _⟩ ?_
              refine zeq (tgt := 103) hz dX3_tuneRest_73 (by decide) (fun c_73 => ?_) (fun c_73 => ?_)
              · refine lv_iinc (v := nI (nt + 1)) (lv' := [(7, .int (nI (nt + 1))), (0, .ref (a 39)), (1, .int (nI O)), (2, .int (nI 2)), (3, .int (nI w)), (4, .int (nI (O ^^^ (O &&& 2 ^ w)))), (5, .int (nI (Ch 2 w))), (6, .int (nI tr))]) hz.1 hz.2.1 dX3_tuneRest_103 hl (k := 7) rfl (nI_add _ 1) (by decide) rfl (fun ls hl => ?_)
                refine lv_goto (tgt := 59) hz.1 hz.2.1 dX3_tuneRest_106 (by decide) ?_
                exact ih59 (nt + 1) Cv (by omega) (hCv) (hCb) (fun b hb ht => by rcases Nat.lt_or_ge b nt with q | q; exact hno b q ht; rw [show b = nt by omega] at ht; exact absurd (c_73.symm.trans ht) (by decide)) (by omega) ls H locs hP hS (lv_sub hl [1, 2, 3, 4, 5, 6, 7, 0] rfl)
              · refine lv_aload_n hz.1 hz.2.1 dX3_tuneRest_76 rfl (lv_at hl 0 rfl) ?_
                refine lv_iload_n hz.1 hz.2.1 dX3_tuneRest_77 rfl (lv_at hl 3 rfl) ?_
                refine lv_iload hz.1 hz.2.1 dX3_tuneRest_78 (lv_at hl 7 rfl) ?_
                refine lv_iload hz.1 hz.2.1 dX3_tuneRest_80 (lv_at hl 4 rfl) ?_
                refine lv_iload_n hz.1 hz.2.1 dX3_tuneRest_82 rfl (lv_at hl 2 rfl) ?_
                refine wrV (A := wA (tu a k Y Nt Sl Mt Ch)) (As := [.int (nI w), .int (nI nt), .int (nI (O ^^^ (O &&& 2 ^ w))), .int (nI 2)]) (rest := []) hz (okAm tS sk sv) (c3_narrows l_ D k a tS sk sv Y Nt Sl Mt Cv w nt (O ^^^ (O &&& 2 ^ w)) 2 w8 (by omega) r1 (by decide) hs (hH.2.2.1 w w8 wO) hCb) (cwV 4 hz.2.2.2.2 gX3_tuneRest_X3_narrows rfl rfl rfl (by decide +kernel) ⟨Nat.le_of_ble_eq_true rfl, Nat.le_of_ble_eq_true rfl⟩) hK hy hP hD hS 0 3 rfl rfl rfl rfl hl.1 rfl (Nat.le_of_ble_eq_true rfl) dX3_tuneRest_83 ⟨Nat.zero_le _, Nat.zero_le _⟩ (fun r u H1 locs hp hP1 hS hfr => ?_)
                obtain ⟨u1, hren_⟩ : ∃ z_, z_ = u := ⟨u, rfl⟩
                subst hren_
                obtain ⟨h1, h2, h3⟩ := hp
                have eD : Cv 2 = Ch 2 := hCv 2 (Nat.le_refl _)
                rw [eD] at h1 h3
                obtain rfl : r = bI (sAll (kNB Mt Sl (Ch 2) (O ^^^ (O &&& 2 ^ w)) w nt) 8) := h1
                have hP : va_P D vwCl (tu a k Y Nt Sl Mt (gset Cv 3 u1)) H1 := hP1
                generalize H1 = H at hP hS ⊢
                have hD : va_D (wA (tu a k Y Nt Sl Mt Ch)) (tu a k Y Nt Sl Mt (gset Cv 3 u1)) := hD.same rfl
                refine zeq (tgt := 103) hz dX3_tuneRest_86 (by decide) (fun c_86 => ?_) (fun c_86 => ?_)
                · refine lv_iinc (v := nI (nt + 1)) (lv' := [(7, .int (nI (nt + 1))), (0, .ref (a 39)), (1, .int (nI O)), (2, .int (nI 2)), (3, .int (nI w)), (4, .int (nI (O ^^^ (O &&& 2 ^ w)))), (5, .int (nI (Ch 2 w))), (6, .int (nI tr))]) hz.1 hz.2.1 dX3_tuneRest_103 hl (k := 7) rfl (nI_add _ 1) (by decide) rfl (fun ls hl => ?_)
                  refine lv_goto (tgt := 59) hz.1 hz.2.1 dX3_tuneRest_106 (by decide) ?_
                  exact ih59 (nt + 1) (gset Cv 3 u1) (by omega) (fun i hi => (gset_ne _ _ (by omega)).trans (hCv i hi)) (gset_lt hCb h2) (fun b hb ht => by rcases Nat.lt_or_ge b nt with q | q; exact hno b q ht; rw [show b = nt by omega]; exact kNB_ok c_86) (by omega) ls H locs hP hS (lv_sub hl [1, 2, 3, 4, 5, 6, 7, 0] rfl)
                · refine lv_aload_n hz.1 hz.2.1 dX3_tuneRest_89 rfl (lv_at hl 0 rfl) ?_
                  refine lv_iload hz.1 hz.2.1 dX3_tuneRest_90 (lv_at hl 4 rfl) ?_
                  refine lv_iload_n hz.1 hz.2.1 dX3_tuneRest_92 rfl (lv_at hl 2 rfl) ?_
                  refine lv_iconst (v := nI 1) hz.1 hz.2.1 dX3_tuneRest_93 (by decide) ?_
                  refine lv_iadd hz.1 hz.2.1 dX3_tuneRest_94 ?_
                  refine toe (z := nI 3) (rfl) ?_
                  refine wrV (A := wA (tu a k Y Nt Sl Mt Ch)) (As := [.int (nI (O ^^^ (O &&& 2 ^ w))), .int (nI 3)]) (rest := []) hz (okAm tS sk sv) (c3_tuneRest_3 l_ D k a tS sk sv Y Nt Sl Mt (gset Cv 3 u1) (O ^^^ (O &&& 2 ^ w)) hH.rest hs (gset_lt hCb h2) (by have := rest_pop o1 w8 wO; omega)) (cwV 2 hz.2.2.2.2 gX3_tuneRest_X3_tuneRest rfl rfl rfl (by decide +kernel) ⟨Nat.le_of_ble_eq_true rfl, Nat.le_of_ble_eq_true rfl⟩) hK hy hP hD hS 0 3 rfl rfl rfl rfl hl.1 rfl (Nat.le_of_ble_eq_true rfl) dX3_tuneRest_95 ⟨Nat.zero_le _, Nat.zero_le _⟩ (fun r u H1 locs hp hP1 hS hfr => ?_)
                  obtain ⟨u2, hren_⟩ : ∃ z_, z_ = u := ⟨u, rfl⟩
                  subst hren_
                  obtain ⟨g1, g2, g3⟩ := hp
                  have e5 : kSolB Mt Sl (O ^^^ (O &&& 2 ^ w)) (gset Cv 3 u1 3) = kSolB Mt Sl (O ^^^ (O &&& 2 ^ w)) (kNw Mt Sl (Ch 2) w nt) := solB_eq (fun v hv ho => by rw [gset_same, h3 c_86, kNr_8 hv ho])
                  rw [e5] at g1
                  obtain rfl : r = bI (kSolB Mt Sl (O ^^^ (O &&& 2 ^ w)) (kNw Mt Sl (Ch 2) w nt)) := g1
                  have hP : va_P D vwCl (tu a k Y Nt Sl Mt u2) H1 := hP1
                  generalize H1 = H at hP hS ⊢
                  have hD : va_D (wA (tu a k Y Nt Sl Mt Ch)) (tu a k Y Nt Sl Mt u2) := hD.same rfl
                  refine zeq (tgt := 103) hz dX3_tuneRest_98 (by decide) (fun c_98 => ?_) (fun c_98 => ?_)
                  · refine lv_iinc (v := nI (nt + 1)) (lv' := [(7, .int (nI (nt + 1))), (0, .ref (a 39)), (1, .int (nI O)), (2, .int (nI 2)), (3, .int (nI w)), (4, .int (nI (O ^^^ (O &&& 2 ^ w)))), (5, .int (nI (Ch 2 w))), (6, .int (nI tr))]) hz.1 hz.2.1 dX3_tuneRest_103 hl (k := 7) rfl (nI_add _ 1) (by decide) rfl (fun ls hl => ?_)
                    refine lv_goto (tgt := 59) hz.1 hz.2.1 dX3_tuneRest_106 (by decide) ?_
                    exact ih59 (nt + 1) u2 (by omega) (fun i hi => (g2 i (by omega)).trans ((gset_ne _ _ (by omega)).trans (hCv i hi))) (g3) (fun b hb ht => by rcases Nat.lt_or_ge b nt with q | q; exact hno b q ht; rw [show b = nt by omega]; exact kSolB_f.mp c_98) (by omega) ls H locs hP hS (lv_sub hl [1, 2, 3, 4, 5, 6, 7, 0] rfl)
                  · refine lv_iconst (v := nI 1) hz.1 hz.2.1 dX3_tuneRest_101 (by decide) ?_
                    exact wr_zret hz hr hlk dX3_tuneRest_102 hS (bI_1 (tr_hit hH w8 wO htr c_63 c_73 (kSolB_t.mp c_98))) u2 hP (⟨rfl, fun i hi => (g2 i (by omega)).trans ((gset_ne _ _ (by omega)).trans (hCv i hi)), g3⟩)
        exact lp_59 _ 0 Ch (by omega) (fun _ _ => rfl) (hC) (fun b hb => absurd hb (Nat.not_lt_zero b)) (Nat.lt_succ_self _) ls _ _ hP hS (lv_sub hl [2, 3, 4, 5, 6, 7, 1, 0] rfl)
      refine lv_iload hz.1 hz.2.1 dX3_tuneRest_40 (lv_at hl 0 rfl) ?_
      refine lv_sipush (v := nI 4095) hz.1 hz.2.1 dX3_tuneRest_42 (by decide) ?_
      refine jne (tgt := 52) hz dX3_tuneRest_45 (by decide) (by omega) (by omega) (fun c_45 => ?_) (fun c_45 => ?_)
      · refine lv_iload hz.1 hz.2.1 dX3_tuneRest_52 (lv_at hl 0 rfl) ?_
        exact jn_54 (Ch 2 w) (kTr_left hH (hC 2 w) w8 wO) ls (lv_sub hl [3, 4, 5, 2, 1, 0] rfl)
      · refine lv_iconst (v := nI 1) hz.1 hz.2.1 dX3_tuneRest_48 (by decide) ?_
        refine lv_goto (tgt := 54) hz.1 hz.2.1 dX3_tuneRest_49 (by decide) ?_
        exact jn_54 1 (kTr_one hH (hC 2) w8 wO wmin c_45) ls (lv_sub hl [3, 4, 5, 2, 1, 0] rfl)
    · exact absurd (by decide) c_9
  · refine lv_iconst (v := nI 1) hz.1 hz.2.1 dX3_tuneRest_4 (by decide) ?_
    exact wr_zret hz hr hlk dX3_tuneRest_5 hS (bI_1 (by rw [c_1]; exact kSolB_t.mpr kSol_0)) Ch hP (⟨rfl, fun _ _ => rfl, hC⟩)

set_option maxHeartbeats 4000000 in
set_option maxRecDepth 100000 in
theorem c3_tuneRest_1 (l_ : Launch) (D : va_G) (k : Nat → ClassId) (a : Nat → Nat) (tS : Nat) (sk sv : Nat → Nat) (Y : Nat → Nat) (Nt : Nat → Nat) (Sl : Nat → Nat) (Mt : Nat → Nat) (Ch : Nat → Nat → Nat) (O : Nat) (hH : kHyp Mt Sl O) (hs : ∀ v, Sl v < 2) (hC : ∀ i v, Ch i v < 4096) (hp0 : sPop O + 1 ≤ 8) : Met l_ yX3_tuneRest wsX3_tuneRest ({ frames := 8, cells := 0, slots := 0, locals := 213 }) (va_Pc [.ref (a 39), .int (nI O), .int (nI 1)] (wH (Am tS sk sv) D k (tu a k Y Nt Sl Mt Ch))) (va_Qi (fun (r : Int32) (u : Nat → Nat → Nat) => r = bI (kSolB Mt Sl O (Ch 1)) ∧ (∀ i, i ≤ 1 → u i = Ch i) ∧ (∀ i v, u i v < 4096)) (fun (u : Nat → Nat → Nat) (t_ : State) => va_P D vwCl ((fun (u : Nat → Nat → Nat) => tu a k Y Nt Sl Mt u) u) t_.heap) (wA (tu a k Y Nt Sl Mt Ch))) 0 0 (wA (tu a k Y Nt Sl Mt Ch)) := by
  refine my_entry (cc := cX3_tuneRest) (maxL := 8) (ret := some .boolean) (by decide) rfl (Nat.le_of_ble_eq_true rfl) ?_
  intro p_ e_ s_ m_ bl_ me_ c_ hz hr hlk hB ls hl
  obtain ⟨hP, hK, hD0, hy⟩ := hB
  have hD := wA.self hD0
  have hS : va_S (wA (tu a k Y Nt Sl Mt Ch)) s_.heap s_.heap [] := va_S.rf
  have hl : lv_has ls 8 [(0, .ref (a 39)), (1, .int (nI O)), (2, .int (nI 1))] := hl
  have o1 := hH.1
  refine lv_iload_n hz.1 hz.2.1 dX3_tuneRest_0 rfl (lv_at hl 1 rfl) ?_
  refine jne0 (tgt := 6) hz dX3_tuneRest_1 (by decide) (by omega) (fun c_1 => ?_) (fun c_1 => ?_)
  · refine lv_iload_n hz.1 hz.2.1 dX3_tuneRest_6 rfl (lv_at hl 2 rfl) ?_
    refine lv_bipush (v := nI 8) hz.1 hz.2.1 dX3_tuneRest_7 (by decide) ?_
    refine jlt (tgt := 14) hz dX3_tuneRest_9 (by decide) (by omega) (by omega) (fun c_9 => ?_) (fun c_9 => ?_)
    · refine lv_aload_n hz.1 hz.2.1 dX3_tuneRest_14 rfl (lv_at hl 0 rfl) ?_
      refine lv_iload_n hz.1 hz.2.1 dX3_tuneRest_15 rfl (lv_at hl 1 rfl) ?_
      refine lv_iload_n hz.1 hz.2.1 dX3_tuneRest_16 rfl (lv_at hl 2 rfl) ?_
      refine rdV (A := wA (tu a k Y Nt Sl Mt Ch)) (As := [.int (nI O), .int (nI 1)]) (rest := []) hz (okAm tS sk sv) (c3_mostBound l_ D k a tS sk sv Y Nt Sl Mt Ch O 1 o1 (by decide) hC) (cwV 2 hz.2.2.2.2 gX3_tuneRest_X3_mostBound rfl rfl rfl (by decide +kernel) ⟨Nat.le_of_ble_eq_true rfl, Nat.le_of_ble_eq_true rfl⟩) hK hy hP hD hS 0 3 rfl rfl rfl rfl hl.1 rfl (Nat.le_of_ble_eq_true rfl) dX3_tuneRest_17 ⟨Nat.zero_le _, Nat.zero_le _⟩ ?_
      have mb := kMb_end o1 c_1 (fun w _ => hC 1 w)
      generalize (kMb O (Ch 1) 8).1 = w at mb ⊢
      obtain ⟨w8, wO, wmin⟩ := mb
      refine lv_istore_n (lv' := [(3, .int (nI w)), (0, .ref (a 39)), (1, .int (nI O)), (2, .int (nI 1))]) hz.1 hz.2.1 dX3_tuneRest_20 rfl hl (by decide) rfl (fun ls hl => ?_)
      refine lv_iload_n hz.1 hz.2.1 dX3_tuneRest_21 rfl (lv_at hl 2 rfl) ?_
      refine lv_iconst (v := nI 1) hz.1 hz.2.1 dX3_tuneRest_22 (by decide) ?_
      refine lv_iload_n hz.1 hz.2.1 dX3_tuneRest_23 rfl (lv_at hl 0 rfl) ?_
      refine lv_ishl hz.1 hz.2.1 dX3_tuneRest_24 ?_
      refine toe (z := nI (2 ^ w)) (nI_shl1 (by omega)) ?_
      refine lv_iconst (v := (-1)) hz.1 hz.2.1 dX3_tuneRest_25 (by decide) ?_
      refine lv_ixor hz.1 hz.2.1 dX3_tuneRest_26 ?_
      refine lv_iand hz.1 hz.2.1 dX3_tuneRest_27 ?_
      refine toe (z := nI (O ^^^ (O &&& 2 ^ w))) (nI_andnot _ _) ?_
      refine lv_istore (lv' := [(4, .int (nI (O ^^^ (O &&& 2 ^ w)))), (3, .int (nI w)), (0, .ref (a 39)), (1, .int (nI O)), (2, .int (nI 1))]) hz.1 hz.2.1 dX3_tuneRest_28 hl (by decide) rfl (fun ls hl => ?_)
      refine lv_aload_n hz.1 hz.2.1 dX3_tuneRest_30 rfl (lv_at hl 2 rfl) ?_
      refine rg (T := TX3) (N := 5) hz hinX3_tuneRest_X3 hK hP 0 rfl rfl 3 (by decide) (List.mem_of_getElem? (i := 1) rfl) rfl (v := .ref (a 43)) rfl dX3_tuneRest_31 ?_
      refine lv_iload_n hz.1 hz.2.1 dX3_tuneRest_34 rfl (lv_at hl 4 rfl) ?_
      refine rald4 hz hK hP 4 rfl (i := 1) (v := a 45) (by omega) (by decide) (if_pos (by omega)) dX3_tuneRest_35 ?_
      refine lv_iload_n hz.1 hz.2.1 dX3_tuneRest_36 rfl (lv_at hl 1 rfl) ?_
      refine rald hz hK hP 6 0 rfl rfl (i := w) (by omega) (by decide) (v := nI (Ch 1 w)) rfl dX3_tuneRest_37 ?_
      have c1 := hC 1 w
      refine lv_istore (lv' := [(5, .int (nI (Ch 1 w))), (4, .int (nI (O ^^^ (O &&& 2 ^ w)))), (3, .int (nI w)), (0, .ref (a 39)), (1, .int (nI O)), (2, .int (nI 1))]) hz.1 hz.2.1 dX3_tuneRest_38 hl (by decide) rfl (fun ls hl => ?_)
      have jn_54 : ∀ (tr : Nat), (kTr Mt Sl (Ch 1) O w tr) → ∀ ls : Array Slot, lv_has ls 8 [(0, .ref (a 39)), (1, .int (nI O)), (2, .int (nI 1)), (3, .int (nI w)), (4, .int (nI (O ^^^ (O &&& 2 ^ w)))), (5, .int (nI (Ch 1 w)))] → W p_ l_ e_ ({ frames := 8, cells := 0, slots := 0, locals := 213 }) s_ m_ [.ref (a 39), .int (nI O), .int (nI 1)].toArray bl_ me_ c_ s_.heap [] 0 0 (MQ bl_ (va_Qi (fun (r : Int32) (u : Nat → Nat → Nat) => r = bI (kSolB Mt Sl O (Ch 1)) ∧ (∀ i, i ≤ 1 → u i = Ch i) ∧ (∀ i v, u i v < 4096)) (fun (u : Nat → Nat → Nat) (t_ : State) => va_P D vwCl ((fun (u : Nat → Nat → Nat) => tu a k Y Nt Sl Mt u) u) t_.heap) (wA (tu a k Y Nt Sl Mt Ch))) [.ref (a 39), .int (nI O), .int (nI 1)].toArray s_ 0 0 (wA (tu a k Y Nt Sl Mt Ch))) (F0 m_ 54 ls [.int (nI tr)]) := by
        intro tr htr ls hl
        refine lv_istore (lv' := [(6, .int (nI tr)), (0, .ref (a 39)), (1, .int (nI O)), (2, .int (nI 1)), (3, .int (nI w)), (4, .int (nI (O ^^^ (O &&& 2 ^ w)))), (5, .int (nI (Ch 1 w)))]) hz.1 hz.2.1 dX3_tuneRest_54 hl (by decide) rfl (fun ls hl => ?_)
        refine lv_iconst (v := nI 0) hz.1 hz.2.1 dX3_tuneRest_56 (by decide) ?_
        refine lv_istore (lv' := [(7, .int (nI 0)), (6, .int (nI tr)), (0, .ref (a 39)), (1, .int (nI O)), (2, .int (nI 1)), (3, .int (nI w)), (4, .int (nI (O ^^^ (O &&& 2 ^ w)))), (5, .int (nI (Ch 1 w)))]) hz.1 hz.2.1 dX3_tuneRest_57 hl (by decide) rfl (fun ls hl => ?_)
        have lp_59 : ∀ (fu : Nat) (nt : Nat) (Cv : Nat → Nat → Nat), (nt ≤ 12) → (∀ i, i ≤ 1 → Cv i = Ch i) → (∀ i v, Cv i v < 4096) → (∀ b, b < nt → tr.testBit b = true → ¬ kSol Mt Sl (O ^^^ (O &&& 2 ^ w)) (kNw Mt Sl (Ch 1) w b)) → 12 - nt < fu → ∀ ls : Array Slot, ∀ (H : Heap) (locs : List Loc), va_P D vwCl (tu a k Y Nt Sl Mt Cv) H → va_S (wA (tu a k Y Nt Sl Mt Ch)) s_.heap H locs → lv_has ls 8 [(0, .ref (a 39)), (1, .int (nI O)), (2, .int (nI 1)), (3, .int (nI w)), (4, .int (nI (O ^^^ (O &&& 2 ^ w)))), (5, .int (nI (Ch 1 w))), (6, .int (nI tr)), (7, .int (nI nt))] → W p_ l_ e_ ({ frames := 8, cells := 0, slots := 0, locals := 213 }) s_ m_ [.ref (a 39), .int (nI O), .int (nI 1)].toArray bl_ me_ c_ H locs 0 0 (MQ bl_ (va_Qi (fun (r : Int32) (u : Nat → Nat → Nat) => r = bI (kSolB Mt Sl O (Ch 1)) ∧ (∀ i, i ≤ 1 → u i = Ch i) ∧ (∀ i v, u i v < 4096)) (fun (u : Nat → Nat → Nat) (t_ : State) => va_P D vwCl ((fun (u : Nat → Nat → Nat) => tu a k Y Nt Sl Mt u) u) t_.heap) (wA (tu a k Y Nt Sl Mt Ch))) [.ref (a 39), .int (nI O), .int (nI 1)].toArray s_ 0 0 (wA (tu a k Y Nt Sl Mt Ch))) (F0 m_ 59 ls []) := by
          intro fu
          induction fu with
          | zero => intro nt Cv hnt hCv hCb hno hm; exact absurd hm (Nat.not_lt_zero _)
          | succ fu ih59 =>
            intro nt Cv hnt hCv hCb hno hm ls H locs hP hS hl
            have hD : va_D (wA (tu a k Y Nt Sl Mt Ch)) (tu a k Y Nt Sl Mt Cv) := hD.same rfl
            refine lv_iload hz.1 hz.2.1 dX3_tuneRest_59 (lv_at hl 7 rfl) ?_
            refine lv_bipush (v := nI 12) hz.1 hz.2.1 dX3_tuneRest_61 (by decide) ?_
            refine jge (tgt := 109) hz dX3_tuneRest_63 (by decide) (by omega) (by omega) (fun c_63 => ?_) (fun c_63 => ?_)
            · obtain rfl : nt = 12 := by omega
              refine lv_iconst (v := nI 0) hz.1 hz.2.1 dX3_tuneRest_109 (by decide) ?_
              exact wr_zret hz hr hlk dX3_tuneRest_110 hS (bI_0 (tr_end htr (fun b hb => hno b (by omega)))) Cv hP (⟨rfl, hCv, hCb⟩)
            · have t1 := htr.1
              have r1 : (O ^^^ (O &&& 2 ^ w)) < 256 := Nat.lt_of_le_of_lt (andnot_le _ _) o1
              refine lv_iload hz.1 hz.2.1 dX3_tuneRest_66 (lv_at hl 6 rfl) ?_
              refine lv_iload hz.1 hz.2.1 dX3_tuneRest_68 (lv_at hl 7 rfl) ?_
              refine rdSN (n := 2) (As := [.int (nI tr), .int (nI nt)]) (rest := []) hz (c5_has l_ tr nt (by omega) (by omega)) rfl gX3_tuneRest_X5_has_n68 rfl ⟨rfl, rfl⟩ hy (List.mem_of_getElem? (i := 6) rfl) (List.mem_of_getElem? (i := 15) rfl) (List.mem_of_getElem? (i := 14) rfl) (by decide +kernel) ⟨Nat.le_of_ble_eq_true rfl, Nat.le_of_ble_eq_true rfl⟩ rfl hl.1 rfl (Nat.le_of_ble_eq_true rfl) dX3_tuneRest_70 ⟨Nat.zero_le _, Nat.zero_le _⟩ ?_
              refine zeq (tgt := 103) hz dX3_tuneRest_73 (by decide) (fun c_73 => ?_) (fun c_73 => ?_)
              · refine lv_iinc (v := nI (nt + 1)) (lv' := [(7, .int (nI (nt + 1))), (0, .ref (a 39)), (1, .int (nI O)), (2, .int (nI 1)), (3, .int (nI w)), (4, .int (nI (O ^^^ (O &&& 2 ^ w)))), (5, .int (nI (Ch 1 w))), (6, .int (nI tr))]) hz.1 hz.2.1 dX3_tuneRest_103 hl (k := 7) rfl (nI_add _ 1) (by decide) rfl (fun ls hl => ?_)
                refine lv_goto (tgt := 59) hz.1 hz.2.1 dX3_tuneRest_106 (by decide) ?_
                exact ih59 (nt + 1) Cv (by omega) (hCv) (hCb) (fun b hb ht => by rcases Nat.lt_or_ge b nt with q | q; exact hno b q ht; rw [show b = nt by omega] at ht; exact absurd (c_73.symm.trans ht) (by decide)) (by omega) ls H locs hP hS (lv_sub hl [1, 2, 3, 4, 5, 6, 7, 0] rfl)
              · refine lv_aload_n hz.1 hz.2.1 dX3_tuneRest_76 rfl (lv_at hl 0 rfl) ?_
                refine lv_iload_n hz.1 hz.2.1 dX3_tuneRest_77 rfl (lv_at hl 3 rfl) ?_
                refine lv_iload hz.1 hz.2.1 dX3_tuneRest_78 (lv_at hl 7 rfl) ?_
                refine lv_iload hz.1 hz.2.1 dX3_tuneRest_80 (lv_at hl 4 rfl) ?_
                refine lv_iload_n hz.1 hz.2.1 dX3_tuneRest_82 rfl (lv_at hl 2 rfl) ?_
                refine wrV (A := wA (tu a k Y Nt Sl Mt Ch)) (As := [.int (nI w), .int (nI nt), .int (nI (O ^^^ (O &&& 2 ^ w))), .int (nI 1)]) (rest := []) hz (okAm tS sk sv) (c3_narrows l_ D k a tS sk sv Y Nt Sl Mt Cv w nt (O ^^^ (O &&& 2 ^ w)) 1 w8 (by omega) r1 (by decide) hs (hH.2.2.1 w w8 wO) hCb) (cwV 4 hz.2.2.2.2 gX3_tuneRest_X3_narrows rfl rfl rfl (by decide +kernel) ⟨Nat.le_of_ble_eq_true rfl, Nat.le_of_ble_eq_true rfl⟩) hK hy hP hD hS 0 3 rfl rfl rfl rfl hl.1 rfl (Nat.le_of_ble_eq_true rfl) dX3_tuneRest_83 ⟨Nat.zero_le _, Nat.zero_le _⟩ (fun r u H1 locs hp hP1 hS hfr => ?_)
                obtain ⟨u1, hren_⟩ : ∃ z_, z_ = u := ⟨u, rfl⟩
                subst hren_
                obtain ⟨h1, h2, h3⟩ := hp
                have eD : Cv 1 = Ch 1 := hCv 1 (Nat.le_refl _)
                rw [eD] at h1 h3
                obtain rfl : r = bI (sAll (kNB Mt Sl (Ch 1) (O ^^^ (O &&& 2 ^ w)) w nt) 8) := h1
                have hP : va_P D vwCl (tu a k Y Nt Sl Mt (gset Cv 2 u1)) H1 := hP1
                generalize H1 = H at hP hS ⊢
                have hD : va_D (wA (tu a k Y Nt Sl Mt Ch)) (tu a k Y Nt Sl Mt (gset Cv 2 u1)) := hD.same rfl
                refine zeq (tgt := 103) hz dX3_tuneRest_86 (by decide) (fun c_86 => ?_) (fun c_86 => ?_)
                · refine lv_iinc (v := nI (nt + 1)) (lv' := [(7, .int (nI (nt + 1))), (0, .ref (a 39)), (1, .int (nI O)), (2, .int (nI 1)), (3, .int (nI w)), (4, .int (nI (O ^^^ (O &&& 2 ^ w)))), (5, .int (nI (Ch 1 w))), (6, .int (nI tr))]) hz.1 hz.2.1 dX3_tuneRest_103 hl (k := 7) rfl (nI_add _ 1) (by decide) rfl (fun ls hl => ?_)
                  refine lv_goto (tgt := 59) hz.1 hz.2.1 dX3_tuneRest_106 (by decide) ?_
                  exact ih59 (nt + 1) (gset Cv 2 u1) (by omega) (fun i hi => (gset_ne _ _ (by omega)).trans (hCv i hi)) (gset_lt hCb h2) (fun b hb ht => by rcases Nat.lt_or_ge b nt with q | q; exact hno b q ht; rw [show b = nt by omega]; exact kNB_ok c_86) (by omega) ls H locs hP hS (lv_sub hl [1, 2, 3, 4, 5, 6, 7, 0] rfl)
                · refine lv_aload_n hz.1 hz.2.1 dX3_tuneRest_89 rfl (lv_at hl 0 rfl) ?_
                  refine lv_iload hz.1 hz.2.1 dX3_tuneRest_90 (lv_at hl 4 rfl) ?_
                  refine lv_iload_n hz.1 hz.2.1 dX3_tuneRest_92 rfl (lv_at hl 2 rfl) ?_
                  refine lv_iconst (v := nI 1) hz.1 hz.2.1 dX3_tuneRest_93 (by decide) ?_
                  refine lv_iadd hz.1 hz.2.1 dX3_tuneRest_94 ?_
                  refine toe (z := nI 2) (rfl) ?_
                  refine wrV (A := wA (tu a k Y Nt Sl Mt Ch)) (As := [.int (nI (O ^^^ (O &&& 2 ^ w))), .int (nI 2)]) (rest := []) hz (okAm tS sk sv) (c3_tuneRest_2 l_ D k a tS sk sv Y Nt Sl Mt (gset Cv 2 u1) (O ^^^ (O &&& 2 ^ w)) hH.rest hs (gset_lt hCb h2) (by have := rest_pop o1 w8 wO; omega)) (cwV 2 hz.2.2.2.2 gX3_tuneRest_X3_tuneRest rfl rfl rfl (by decide +kernel) ⟨Nat.le_of_ble_eq_true rfl, Nat.le_of_ble_eq_true rfl⟩) hK hy hP hD hS 0 3 rfl rfl rfl rfl hl.1 rfl (Nat.le_of_ble_eq_true rfl) dX3_tuneRest_95 ⟨Nat.zero_le _, Nat.zero_le _⟩ (fun r u H1 locs hp hP1 hS hfr => ?_)
                  obtain ⟨u2, hren_⟩ : ∃ z_, z_ = u := ⟨u, rfl⟩
                  subst hren_
                  obtain ⟨g1, g2, g3⟩ := hp
                  have e5 : kSolB Mt Sl (O ^^^ (O &&& 2 ^ w)) (gset Cv 2 u1 2) = kSolB Mt Sl (O ^^^ (O &&& 2 ^ w)) (kNw Mt Sl (Ch 1) w nt) := solB_eq (fun v hv ho => by rw [gset_same, h3 c_86, kNr_8 hv ho])
                  rw [e5] at g1
                  obtain rfl : r = bI (kSolB Mt Sl (O ^^^ (O &&& 2 ^ w)) (kNw Mt Sl (Ch 1) w nt)) := g1
                  have hP : va_P D vwCl (tu a k Y Nt Sl Mt u2) H1 := hP1
                  generalize H1 = H at hP hS ⊢
                  have hD : va_D (wA (tu a k Y Nt Sl Mt Ch)) (tu a k Y Nt Sl Mt u2) := hD.same rfl
                  refine zeq (tgt := 103) hz dX3_tuneRest_98 (by decide) (fun c_98 => ?_) (fun c_98 => ?_)
                  · refine lv_iinc (v := nI (nt + 1)) (lv' := [(7, .int (nI (nt + 1))), (0, .ref (a 39)), (1, .int (nI O)), (2, .int (nI 1)), (3, .int (nI w)), (4, .int (nI (O ^^^ (O &&& 2 ^ w)))), (5, .int (nI (Ch 1 w))), (6, .int (nI tr))]) hz.1 hz.2.1 dX3_tuneRest_103 hl (k := 7) rfl (nI_add _ 1) (by decide) rfl (fun ls hl => ?_)
                    refine lv_goto (tgt := 59) hz.1 hz.2.1 dX3_tuneRest_106 (by decide) ?_
                    exact ih59 (nt + 1) u2 (by omega) (fun i hi => (g2 i (by omega)).trans ((gset_ne _ _ (by omega)).trans (hCv i hi))) (g3) (fun b hb ht => by rcases Nat.lt_or_ge b nt with q | q; exact hno b q ht; rw [show b = nt by omega]; exact kSolB_f.mp c_98) (by omega) ls H locs hP hS (lv_sub hl [1, 2, 3, 4, 5, 6, 7, 0] rfl)
                  · refine lv_iconst (v := nI 1) hz.1 hz.2.1 dX3_tuneRest_101 (by decide) ?_
                    exact wr_zret hz hr hlk dX3_tuneRest_102 hS (bI_1 (tr_hit hH w8 wO htr c_63 c_73 (kSolB_t.mp c_98))) u2 hP (⟨rfl, fun i hi => (g2 i (by omega)).trans ((gset_ne _ _ (by omega)).trans (hCv i hi)), g3⟩)
        exact lp_59 _ 0 Ch (by omega) (fun _ _ => rfl) (hC) (fun b hb => absurd hb (Nat.not_lt_zero b)) (Nat.lt_succ_self _) ls _ _ hP hS (lv_sub hl [2, 3, 4, 5, 6, 7, 1, 0] rfl)
      refine lv_iload hz.1 hz.2.1 dX3_tuneRest_40 (lv_at hl 0 rfl) ?_
      refine lv_sipush (v := nI 4095) hz.1 hz.2.1 dX3_tuneRest_42 (by decide) ?_
      refine jne (tgt := 52) hz dX3_tuneRest_45 (by decide) (by omega) (by omega) (fun c_45 => ?_) (fun c_45 => ?_)
      · refine lv_iload hz.1 hz.2.1 dX3_tuneRest_52 (lv_at hl 0 rfl) ?_
        exact jn_54 (Ch 1 w) (kTr_left hH (hC 1 w) w8 wO) ls (lv_sub hl [3, 4, 5, 2, 1, 0] rfl)
      · refine lv_iconst (v := nI 1) hz.1 hz.2.1 dX3_tuneRest_48 (by decide) ?_
        refine lv_goto (tgt := 54) hz.1 hz.2.1 dX3_tuneRest_49 (by decide) ?_
        exact jn_54 1 (kTr_one hH (hC 1) w8 wO wmin c_45) ls (lv_sub hl [3, 4, 5, 2, 1, 0] rfl)
    · exact absurd (by decide) c_9
  · refine lv_iconst (v := nI 1) hz.1 hz.2.1 dX3_tuneRest_4 (by decide) ?_
    exact wr_zret hz hr hlk dX3_tuneRest_5 hS (bI_1 (by rw [c_1]; exact kSolB_t.mpr kSol_0)) Ch hP (⟨rfl, fun _ _ => rfl, hC⟩)

set_option maxHeartbeats 4000000 in
set_option maxRecDepth 100000 in
theorem c3_tuneRest_0 (l_ : Launch) (D : va_G) (k : Nat → ClassId) (a : Nat → Nat) (tS : Nat) (sk sv : Nat → Nat) (Y : Nat → Nat) (Nt : Nat → Nat) (Sl : Nat → Nat) (Mt : Nat → Nat) (Ch : Nat → Nat → Nat) (O : Nat) (hH : kHyp Mt Sl O) (hs : ∀ v, Sl v < 2) (hC : ∀ i v, Ch i v < 4096) (hp0 : sPop O + 0 ≤ 8) : Met l_ yX3_tuneRest wsX3_tuneRest ({ frames := 9, cells := 0, slots := 0, locals := 240 }) (va_Pc [.ref (a 39), .int (nI O), .int (nI 0)] (wH (Am tS sk sv) D k (tu a k Y Nt Sl Mt Ch))) (va_Qi (fun (r : Int32) (u : Nat → Nat → Nat) => r = bI (kSolB Mt Sl O (Ch 0)) ∧ (∀ i, i ≤ 0 → u i = Ch i) ∧ (∀ i v, u i v < 4096)) (fun (u : Nat → Nat → Nat) (t_ : State) => va_P D vwCl ((fun (u : Nat → Nat → Nat) => tu a k Y Nt Sl Mt u) u) t_.heap) (wA (tu a k Y Nt Sl Mt Ch))) 0 0 (wA (tu a k Y Nt Sl Mt Ch)) := by
  refine my_entry (cc := cX3_tuneRest) (maxL := 8) (ret := some .boolean) (by decide) rfl (Nat.le_of_ble_eq_true rfl) ?_
  intro p_ e_ s_ m_ bl_ me_ c_ hz hr hlk hB ls hl
  obtain ⟨hP, hK, hD0, hy⟩ := hB
  have hD := wA.self hD0
  have hS : va_S (wA (tu a k Y Nt Sl Mt Ch)) s_.heap s_.heap [] := va_S.rf
  have hl : lv_has ls 8 [(0, .ref (a 39)), (1, .int (nI O)), (2, .int (nI 0))] := hl
  have o1 := hH.1
  refine lv_iload_n hz.1 hz.2.1 dX3_tuneRest_0 rfl (lv_at hl 1 rfl) ?_
  refine jne0 (tgt := 6) hz dX3_tuneRest_1 (by decide) (by omega) (fun c_1 => ?_) (fun c_1 => ?_)
  · refine lv_iload_n hz.1 hz.2.1 dX3_tuneRest_6 rfl (lv_at hl 2 rfl) ?_
    refine lv_bipush (v := nI 8) hz.1 hz.2.1 dX3_tuneRest_7 (by decide) ?_
    refine jlt (tgt := 14) hz dX3_tuneRest_9 (by decide) (by omega) (by omega) (fun c_9 => ?_) (fun c_9 => ?_)
    · refine lv_aload_n hz.1 hz.2.1 dX3_tuneRest_14 rfl (lv_at hl 0 rfl) ?_
      refine lv_iload_n hz.1 hz.2.1 dX3_tuneRest_15 rfl (lv_at hl 1 rfl) ?_
      refine lv_iload_n hz.1 hz.2.1 dX3_tuneRest_16 rfl (lv_at hl 2 rfl) ?_
      refine rdV (A := wA (tu a k Y Nt Sl Mt Ch)) (As := [.int (nI O), .int (nI 0)]) (rest := []) hz (okAm tS sk sv) (c3_mostBound l_ D k a tS sk sv Y Nt Sl Mt Ch O 0 o1 (by decide) hC) (cwV 2 hz.2.2.2.2 gX3_tuneRest_X3_mostBound rfl rfl rfl (by decide +kernel) ⟨Nat.le_of_ble_eq_true rfl, Nat.le_of_ble_eq_true rfl⟩) hK hy hP hD hS 0 3 rfl rfl rfl rfl hl.1 rfl (Nat.le_of_ble_eq_true rfl) dX3_tuneRest_17 ⟨Nat.zero_le _, Nat.zero_le _⟩ ?_
      have mb := kMb_end o1 c_1 (fun w _ => hC 0 w)
      generalize (kMb O (Ch 0) 8).1 = w at mb ⊢
      obtain ⟨w8, wO, wmin⟩ := mb
      refine lv_istore_n (lv' := [(3, .int (nI w)), (0, .ref (a 39)), (1, .int (nI O)), (2, .int (nI 0))]) hz.1 hz.2.1 dX3_tuneRest_20 rfl hl (by decide) rfl (fun ls hl => ?_)
      refine lv_iload_n hz.1 hz.2.1 dX3_tuneRest_21 rfl (lv_at hl 2 rfl) ?_
      refine lv_iconst (v := nI 1) hz.1 hz.2.1 dX3_tuneRest_22 (by decide) ?_
      refine lv_iload_n hz.1 hz.2.1 dX3_tuneRest_23 rfl (lv_at hl 0 rfl) ?_
      refine lv_ishl hz.1 hz.2.1 dX3_tuneRest_24 ?_
      refine toe (z := nI (2 ^ w)) (nI_shl1 (by omega)) ?_
      refine lv_iconst (v := (-1)) hz.1 hz.2.1 dX3_tuneRest_25 (by decide) ?_
      refine lv_ixor hz.1 hz.2.1 dX3_tuneRest_26 ?_
      refine lv_iand hz.1 hz.2.1 dX3_tuneRest_27 ?_
      refine toe (z := nI (O ^^^ (O &&& 2 ^ w))) (nI_andnot _ _) ?_
      refine lv_istore (lv' := [(4, .int (nI (O ^^^ (O &&& 2 ^ w)))), (3, .int (nI w)), (0, .ref (a 39)), (1, .int (nI O)), (2, .int (nI 0))]) hz.1 hz.2.1 dX3_tuneRest_28 hl (by decide) rfl (fun ls hl => ?_)
      refine lv_aload_n hz.1 hz.2.1 dX3_tuneRest_30 rfl (lv_at hl 2 rfl) ?_
      refine rg (T := TX3) (N := 5) hz hinX3_tuneRest_X3 hK hP 0 rfl rfl 3 (by decide) (List.mem_of_getElem? (i := 1) rfl) rfl (v := .ref (a 43)) rfl dX3_tuneRest_31 ?_
      refine lv_iload_n hz.1 hz.2.1 dX3_tuneRest_34 rfl (lv_at hl 4 rfl) ?_
      refine rald4 hz hK hP 4 rfl (i := 0) (v := a 44) (by omega) (by decide) (if_pos (by omega)) dX3_tuneRest_35 ?_
      refine lv_iload_n hz.1 hz.2.1 dX3_tuneRest_36 rfl (lv_at hl 1 rfl) ?_
      refine rald hz hK hP 5 0 rfl rfl (i := w) (by omega) (by decide) (v := nI (Ch 0 w)) rfl dX3_tuneRest_37 ?_
      have c1 := hC 0 w
      refine lv_istore (lv' := [(5, .int (nI (Ch 0 w))), (4, .int (nI (O ^^^ (O &&& 2 ^ w)))), (3, .int (nI w)), (0, .ref (a 39)), (1, .int (nI O)), (2, .int (nI 0))]) hz.1 hz.2.1 dX3_tuneRest_38 hl (by decide) rfl (fun ls hl => ?_)
      have jn_54 : ∀ (tr : Nat), (kTr Mt Sl (Ch 0) O w tr) → ∀ ls : Array Slot, lv_has ls 8 [(0, .ref (a 39)), (1, .int (nI O)), (2, .int (nI 0)), (3, .int (nI w)), (4, .int (nI (O ^^^ (O &&& 2 ^ w)))), (5, .int (nI (Ch 0 w)))] → W p_ l_ e_ ({ frames := 9, cells := 0, slots := 0, locals := 240 }) s_ m_ [.ref (a 39), .int (nI O), .int (nI 0)].toArray bl_ me_ c_ s_.heap [] 0 0 (MQ bl_ (va_Qi (fun (r : Int32) (u : Nat → Nat → Nat) => r = bI (kSolB Mt Sl O (Ch 0)) ∧ (∀ i, i ≤ 0 → u i = Ch i) ∧ (∀ i v, u i v < 4096)) (fun (u : Nat → Nat → Nat) (t_ : State) => va_P D vwCl ((fun (u : Nat → Nat → Nat) => tu a k Y Nt Sl Mt u) u) t_.heap) (wA (tu a k Y Nt Sl Mt Ch))) [.ref (a 39), .int (nI O), .int (nI 0)].toArray s_ 0 0 (wA (tu a k Y Nt Sl Mt Ch))) (F0 m_ 54 ls [.int (nI tr)]) := by
        intro tr htr ls hl
        refine lv_istore (lv' := [(6, .int (nI tr)), (0, .ref (a 39)), (1, .int (nI O)), (2, .int (nI 0)), (3, .int (nI w)), (4, .int (nI (O ^^^ (O &&& 2 ^ w)))), (5, .int (nI (Ch 0 w)))]) hz.1 hz.2.1 dX3_tuneRest_54 hl (by decide) rfl (fun ls hl => ?_)
        refine lv_iconst (v := nI 0) hz.1 hz.2.1 dX3_tuneRest_56 (by decide) ?_
        refine lv_istore (lv' := [(7, .int (nI 0)), (6, .int (nI tr)), (0, .ref (a 39)), (1, .int (nI O)), (2, .int (nI 0)), (3, .int (nI w)), (4, .int (nI (O ^^^ (O &&& 2 ^ w)))), (5, .int (nI (Ch 0 w)))]) hz.1 hz.2.1 dX3_tuneRest_57 hl (by decide) rfl (fun ls hl => ?_)
        have lp_59 : ∀ (fu : Nat) (nt : Nat) (Cv : Nat → Nat → Nat), (nt ≤ 12) → (∀ i, i ≤ 0 → Cv i = Ch i) → (∀ i v, Cv i v < 4096) → (∀ b, b < nt → tr.testBit b = true → ¬ kSol Mt Sl (O ^^^ (O &&& 2 ^ w)) (kNw Mt Sl (Ch 0) w b)) → 12 - nt < fu → ∀ ls : Array Slot, ∀ (H : Heap) (locs : List Loc), va_P D vwCl (tu a k Y Nt Sl Mt Cv) H → va_S (wA (tu a k Y Nt Sl Mt Ch)) s_.heap H locs → lv_has ls 8 [(0, .ref (a 39)), (1, .int (nI O)), (2, .int (nI 0)), (3, .int (nI w)), (4, .int (nI (O ^^^ (O &&& 2 ^ w)))), (5, .int (nI (Ch 0 w))), (6, .int (nI tr)), (7, .int (nI nt))] → W p_ l_ e_ ({ frames := 9, cells := 0, slots := 0, locals := 240 }) s_ m_ [.ref (a 39), .int (nI O), .int (nI 0)].toArray bl_ me_ c_ H locs 0 0 (MQ bl_ (va_Qi (fun (r : Int32) (u : Nat → Nat → Nat) => r = bI (kSolB Mt Sl O (Ch 0)) ∧ (∀ i, i ≤ 0 → u i = Ch i) ∧ (∀ i v, u i v < 4096)) (fun (u : Nat → Nat → Nat) (t_ : State) => va_P D vwCl ((fun (u : Nat → Nat → Nat) => tu a k Y Nt Sl Mt u) u) t_.heap) (wA (tu a k Y Nt Sl Mt Ch))) [.ref (a 39), .int (nI O), .int (nI 0)].toArray s_ 0 0 (wA (tu a k Y Nt Sl Mt Ch))) (F0 m_ 59 ls []) := by
          intro fu
          induction fu with
          | zero => intro nt Cv hnt hCv hCb hno hm; exact absurd hm (Nat.not_lt_zero _)
          | succ fu ih59 =>
            intro nt Cv hnt hCv hCb hno hm ls H locs hP hS hl
            have hD : va_D (wA (tu a k Y Nt Sl Mt Ch)) (tu a k Y Nt Sl Mt Cv) := hD.same rfl
            refine lv_iload hz.1 hz.2.1 dX3_tuneRest_59 (lv_at hl 7 rfl) ?_
            refine lv_bipush (v := nI 12) hz.1 hz.2.1 dX3_tuneRest_61 (by decide) ?_
            refine jge (tgt := 109) hz dX3_tuneRest_63 (by decide) (by omega) (by omega) (fun c_63 => ?_) (fun c_63 => ?_)
            · obtain rfl : nt = 12 := by omega
              refine lv_iconst (v := nI 0) hz.1 hz.2.1 dX3_tuneRest_109 (by decide) ?_
              exact wr_zret hz hr hlk dX3_tuneRest_110 hS (bI_0 (tr_end htr (fun b hb => hno b (by omega)))) Cv hP (⟨rfl, hCv, hCb⟩)
            · have t1 := htr.1
              have r1 : (O ^^^ (O &&& 2 ^ w)) < 256 := Nat.lt_of_le_of_lt (andnot_le _ _) o1
              refine lv_iload hz.1 hz.2.1 dX3_tuneRest_66 (lv_at hl 6 rfl) ?_
              refine lv_iload hz.1 hz.2.1 dX3_tuneRest_68 (lv_at hl 7 rfl) ?_
              refine rdSN (n := 2) (As := [.int (nI tr), .int (nI nt)]) (rest := []) hz (c5_has l_ tr nt (by omega) (by omega)) rfl gX3_tuneRest_X5_has_n68 rfl ⟨rfl, rfl⟩ hy (List.mem_of_getElem? (i := 6) rfl) (List.mem_of_getElem? (i := 15) rfl) (List.mem_of_getElem? (i := 14) rfl) (by decide +kernel) ⟨Nat.le_of_ble_eq_true rfl, Nat.le_of_ble_eq_true rfl⟩ rfl hl.1 rfl (Nat.le_of_ble_eq_true rfl) dX3_tuneRest_70 ⟨Nat.zero_le _, Nat.zero_le _⟩ ?_
              refine zeq (tgt := 103) hz dX3_tuneRest_73 (by decide) (fun c_73 => ?_) (fun c_73 => ?_)
              · refine lv_iinc (v := nI (nt + 1)) (lv' := [(7, .int (nI (nt + 1))), (0, .ref (a 39)), (1, .int (nI O)), (2, .int (nI 0)), (3, .int (nI w)), (4, .int (nI (O ^^^ (O &&& 2 ^ w)))), (5, .int (nI (Ch 0 w))), (6, .int (nI tr))]) hz.1 hz.2.1 dX3_tuneRest_103 hl (k := 7) rfl (nI_add _ 1) (by decide) rfl (fun ls hl => ?_)
                refine lv_goto (tgt := 59) hz.1 hz.2.1 dX3_tuneRest_106 (by decide) ?_
                exact ih59 (nt + 1) Cv (by omega) (hCv) (hCb) (fun b hb ht => by rcases Nat.lt_or_ge b nt with q | q; exact hno b q ht; rw [show b = nt by omega] at ht; exact absurd (c_73.symm.trans ht) (by decide)) (by omega) ls H locs hP hS (lv_sub hl [1, 2, 3, 4, 5, 6, 7, 0] rfl)
              · refine lv_aload_n hz.1 hz.2.1 dX3_tuneRest_76 rfl (lv_at hl 0 rfl) ?_
                refine lv_iload_n hz.1 hz.2.1 dX3_tuneRest_77 rfl (lv_at hl 3 rfl) ?_
                refine lv_iload hz.1 hz.2.1 dX3_tuneRest_78 (lv_at hl 7 rfl) ?_
                refine lv_iload hz.1 hz.2.1 dX3_tuneRest_80 (lv_at hl 4 rfl) ?_
                refine lv_iload_n hz.1 hz.2.1 dX3_tuneRest_82 rfl (lv_at hl 2 rfl) ?_
                refine wrV (A := wA (tu a k Y Nt Sl Mt Ch)) (As := [.int (nI w), .int (nI nt), .int (nI (O ^^^ (O &&& 2 ^ w))), .int (nI 0)]) (rest := []) hz (okAm tS sk sv) (c3_narrows l_ D k a tS sk sv Y Nt Sl Mt Cv w nt (O ^^^ (O &&& 2 ^ w)) 0 w8 (by omega) r1 (by decide) hs (hH.2.2.1 w w8 wO) hCb) (cwV 4 hz.2.2.2.2 gX3_tuneRest_X3_narrows rfl rfl rfl (by decide +kernel) ⟨Nat.le_of_ble_eq_true rfl, Nat.le_of_ble_eq_true rfl⟩) hK hy hP hD hS 0 3 rfl rfl rfl rfl hl.1 rfl (Nat.le_of_ble_eq_true rfl) dX3_tuneRest_83 ⟨Nat.zero_le _, Nat.zero_le _⟩ (fun r u H1 locs hp hP1 hS hfr => ?_)
                obtain ⟨u1, hren_⟩ : ∃ z_, z_ = u := ⟨u, rfl⟩
                subst hren_
                obtain ⟨h1, h2, h3⟩ := hp
                have eD : Cv 0 = Ch 0 := hCv 0 (Nat.le_refl _)
                rw [eD] at h1 h3
                obtain rfl : r = bI (sAll (kNB Mt Sl (Ch 0) (O ^^^ (O &&& 2 ^ w)) w nt) 8) := h1
                have hP : va_P D vwCl (tu a k Y Nt Sl Mt (gset Cv 1 u1)) H1 := hP1
                generalize H1 = H at hP hS ⊢
                have hD : va_D (wA (tu a k Y Nt Sl Mt Ch)) (tu a k Y Nt Sl Mt (gset Cv 1 u1)) := hD.same rfl
                refine zeq (tgt := 103) hz dX3_tuneRest_86 (by decide) (fun c_86 => ?_) (fun c_86 => ?_)
                · refine lv_iinc (v := nI (nt + 1)) (lv' := [(7, .int (nI (nt + 1))), (0, .ref (a 39)), (1, .int (nI O)), (2, .int (nI 0)), (3, .int (nI w)), (4, .int (nI (O ^^^ (O &&& 2 ^ w)))), (5, .int (nI (Ch 0 w))), (6, .int (nI tr))]) hz.1 hz.2.1 dX3_tuneRest_103 hl (k := 7) rfl (nI_add _ 1) (by decide) rfl (fun ls hl => ?_)
                  refine lv_goto (tgt := 59) hz.1 hz.2.1 dX3_tuneRest_106 (by decide) ?_
                  exact ih59 (nt + 1) (gset Cv 1 u1) (by omega) (fun i hi => (gset_ne _ _ (by omega)).trans (hCv i hi)) (gset_lt hCb h2) (fun b hb ht => by rcases Nat.lt_or_ge b nt with q | q; exact hno b q ht; rw [show b = nt by omega]; exact kNB_ok c_86) (by omega) ls H locs hP hS (lv_sub hl [1, 2, 3, 4, 5, 6, 7, 0] rfl)
                · refine lv_aload_n hz.1 hz.2.1 dX3_tuneRest_89 rfl (lv_at hl 0 rfl) ?_
                  refine lv_iload hz.1 hz.2.1 dX3_tuneRest_90 (lv_at hl 4 rfl) ?_
                  refine lv_iload_n hz.1 hz.2.1 dX3_tuneRest_92 rfl (lv_at hl 2 rfl) ?_
                  refine lv_iconst (v := nI 1) hz.1 hz.2.1 dX3_tuneRest_93 (by decide) ?_
                  refine lv_iadd hz.1 hz.2.1 dX3_tuneRest_94 ?_
                  refine toe (z := nI 1) (rfl) ?_
                  refine wrV (A := wA (tu a k Y Nt Sl Mt Ch)) (As := [.int (nI (O ^^^ (O &&& 2 ^ w))), .int (nI 1)]) (rest := []) hz (okAm tS sk sv) (c3_tuneRest_1 l_ D k a tS sk sv Y Nt Sl Mt (gset Cv 1 u1) (O ^^^ (O &&& 2 ^ w)) hH.rest hs (gset_lt hCb h2) (by have := rest_pop o1 w8 wO; omega)) (cwV 2 hz.2.2.2.2 gX3_tuneRest_X3_tuneRest rfl rfl rfl (by decide +kernel) ⟨Nat.le_of_ble_eq_true rfl, Nat.le_of_ble_eq_true rfl⟩) hK hy hP hD hS 0 3 rfl rfl rfl rfl hl.1 rfl (Nat.le_of_ble_eq_true rfl) dX3_tuneRest_95 ⟨Nat.zero_le _, Nat.zero_le _⟩ (fun r u H1 locs hp hP1 hS hfr => ?_)
                  obtain ⟨u2, hren_⟩ : ∃ z_, z_ = u := ⟨u, rfl⟩
                  subst hren_
                  obtain ⟨g1, g2, g3⟩ := hp
                  have e5 : kSolB Mt Sl (O ^^^ (O &&& 2 ^ w)) (gset Cv 1 u1 1) = kSolB Mt Sl (O ^^^ (O &&& 2 ^ w)) (kNw Mt Sl (Ch 0) w nt) := solB_eq (fun v hv ho => by rw [gset_same, h3 c_86, kNr_8 hv ho])
                  rw [e5] at g1
                  obtain rfl : r = bI (kSolB Mt Sl (O ^^^ (O &&& 2 ^ w)) (kNw Mt Sl (Ch 0) w nt)) := g1
                  have hP : va_P D vwCl (tu a k Y Nt Sl Mt u2) H1 := hP1
                  generalize H1 = H at hP hS ⊢
                  have hD : va_D (wA (tu a k Y Nt Sl Mt Ch)) (tu a k Y Nt Sl Mt u2) := hD.same rfl
                  refine zeq (tgt := 103) hz dX3_tuneRest_98 (by decide) (fun c_98 => ?_) (fun c_98 => ?_)
                  · refine lv_iinc (v := nI (nt + 1)) (lv' := [(7, .int (nI (nt + 1))), (0, .ref (a 39)), (1, .int (nI O)), (2, .int (nI 0)), (3, .int (nI w)), (4, .int (nI (O ^^^ (O &&& 2 ^ w)))), (5, .int (nI (Ch 0 w))), (6, .int (nI tr))]) hz.1 hz.2.1 dX3_tuneRest_103 hl (k := 7) rfl (nI_add _ 1) (by decide) rfl (fun ls hl => ?_)
                    refine lv_goto (tgt := 59) hz.1 hz.2.1 dX3_tuneRest_106 (by decide) ?_
                    exact ih59 (nt + 1) u2 (by omega) (fun i hi => (g2 i (by omega)).trans ((gset_ne _ _ (by omega)).trans (hCv i hi))) (g3) (fun b hb ht => by rcases Nat.lt_or_ge b nt with q | q; exact hno b q ht; rw [show b = nt by omega]; exact kSolB_f.mp c_98) (by omega) ls H locs hP hS (lv_sub hl [1, 2, 3, 4, 5, 6, 7, 0] rfl)
                  · refine lv_iconst (v := nI 1) hz.1 hz.2.1 dX3_tuneRest_101 (by decide) ?_
                    exact wr_zret hz hr hlk dX3_tuneRest_102 hS (bI_1 (tr_hit hH w8 wO htr c_63 c_73 (kSolB_t.mp c_98))) u2 hP (⟨rfl, fun i hi => (g2 i (by omega)).trans ((gset_ne _ _ (by omega)).trans (hCv i hi)), g3⟩)
        exact lp_59 _ 0 Ch (by omega) (fun _ _ => rfl) (hC) (fun b hb => absurd hb (Nat.not_lt_zero b)) (Nat.lt_succ_self _) ls _ _ hP hS (lv_sub hl [2, 3, 4, 5, 6, 7, 1, 0] rfl)
      refine lv_iload hz.1 hz.2.1 dX3_tuneRest_40 (lv_at hl 0 rfl) ?_
      refine lv_sipush (v := nI 4095) hz.1 hz.2.1 dX3_tuneRest_42 (by decide) ?_
      refine jne (tgt := 52) hz dX3_tuneRest_45 (by decide) (by omega) (by omega) (fun c_45 => ?_) (fun c_45 => ?_)
      · refine lv_iload hz.1 hz.2.1 dX3_tuneRest_52 (lv_at hl 0 rfl) ?_
        exact jn_54 (Ch 0 w) (kTr_left hH (hC 0 w) w8 wO) ls (lv_sub hl [3, 4, 5, 2, 1, 0] rfl)
      · refine lv_iconst (v := nI 1) hz.1 hz.2.1 dX3_tuneRest_48 (by decide) ?_
        refine lv_goto (tgt := 54) hz.1 hz.2.1 dX3_tuneRest_49 (by decide) ?_
        exact jn_54 1 (kTr_one hH (hC 0) w8 wO wmin c_45) ls (lv_sub hl [3, 4, 5, 2, 1, 0] rfl)
    · exact absurd (by decide) c_9
  · refine lv_iconst (v := nI 1) hz.1 hz.2.1 dX3_tuneRest_4 (by decide) ?_
    exact wr_zret hz hr hlk dX3_tuneRest_5 hS (bI_1 (by rw [c_1]; exact kSolB_t.mpr kSol_0)) Ch hP (⟨rfl, fun _ _ => rfl, hC⟩)
