set_option maxHeartbeats 4000000 in
set_option maxRecDepth 100000 in
theorem c6_in (l_ : Launch) (x : Int32) (lo hi : Nat) (hlo : lo < 2147483648) (hhi : hi < 2147483648) : Met l_ yX6_in wsX6_in ({ frames := 0, cells := 0, slots := 0, locals := 0 }) (va_Pc [.long x.toInt64, .long (lN lo), .long (lN hi)] (fun _ => True)) (QcRead (bI (wIn x lo hi))) 0 0 (fun _ => False) := by
  refine my_entry (cc := cX6_in) (maxL := 6) (ret := some .boolean) (by decide) rfl (Nat.le_of_ble_eq_true rfl) ?_
  intro p_ e_ s_ m_ bl_ me_ c_ hz hr hlk hB ls hl
  have hl : lv_has ls 6 [(0, .long x.toInt64), (2, .long (lN lo)), (4, .long (lN hi))] := hl
  refine lv_lload_n hz.1 hz.2.1 dX6_in_0 rfl (lv_at hl 0 rfl) ?_
  refine lv_lload_n hz.1 hz.2.1 dX6_in_1 rfl (lv_at hl 1 rfl) ?_
  refine W.lcmp hz.1 hz.2.1 dX6_in_2 ?_
  refine lv_if_lt (tgt := 17) hz.1 hz.2.1 dX6_in_3 (by decide) (fun c_3 => ?_) (fun c_3 => ?_)
  · refine lv_iconst (v := nI 0) hz.1 hz.2.1 dX6_in_17 (by decide) ?_
    exact rd_zret hz hr hlk dX6_in_18 (by rw [wIn_L hlo hhi]; simp only [lg_lt0, lg_gt0] at *; first | exact bI_1 (by simp only [*]; decide) | exact bI_0 (by simp only [*]; decide) | exact bI_0 (by simp [*]))
  · refine lv_lload_n hz.1 hz.2.1 dX6_in_6 rfl (lv_at hl 0 rfl) ?_
    refine lv_lload hz.1 hz.2.1 dX6_in_7 (lv_at hl 2 rfl) ?_
    refine W.lcmp hz.1 hz.2.1 dX6_in_9 ?_
    refine lv_if_gt (tgt := 17) hz.1 hz.2.1 dX6_in_10 (by decide) (fun c_10 => ?_) (fun c_10 => ?_)
    · refine lv_iconst (v := nI 0) hz.1 hz.2.1 dX6_in_17 (by decide) ?_
      exact rd_zret hz hr hlk dX6_in_18 (by rw [wIn_L hlo hhi]; simp only [lg_lt0, lg_gt0] at *; first | exact bI_1 (by simp only [*]; decide) | exact bI_0 (by simp only [*]; decide) | exact bI_0 (by simp [*]))
    · refine lv_iconst (v := nI 1) hz.1 hz.2.1 dX6_in_13 (by decide) ?_
      refine lv_goto (tgt := 18) hz.1 hz.2.1 dX6_in_14 (by decide) ?_
      exact rd_zret hz hr hlk dX6_in_18 (by rw [wIn_L hlo hhi]; simp only [lg_lt0, lg_gt0] at *; first | exact bI_1 (by simp only [*]; decide) | exact bI_0 (by simp only [*]; decide) | exact bI_0 (by simp [*]))

set_option maxHeartbeats 4000000 in
set_option maxRecDepth 100000 in
theorem c6_strength (l_ : Launch) (st : Nat) (h : st < 1000) : Met l_ yX6_strength wsX6_strength ({ frames := 0, cells := 0, slots := 0, locals := 0 }) (va_Pc [.int (nI st)] (fun _ => True)) (QcRead (nI (sStr st))) 0 0 (fun _ => False) := by
  refine my_entry (cc := cX6_strength) (maxL := 1) (ret := some .int) (by decide) rfl (Nat.le_of_ble_eq_true rfl) ?_
  intro p_ e_ s_ m_ bl_ me_ c_ hz hr hlk hB ls hl
  have hl : lv_has ls 1 [(0, .int (nI st))] := hl
  refine lv_iload_n hz.1 hz.2.1 dX6_strength_0 rfl (lv_at hl 0 rfl) ?_
  refine lv_iconst (v := nI 3) hz.1 hz.2.1 dX6_strength_1 (by decide) ?_
  refine jne (tgt := 9) hz dX6_strength_2 (by decide) (by omega) (by omega) (fun c_2 => ?_) (fun c_2 => ?_)
  · refine lv_iload_n hz.1 hz.2.1 dX6_strength_9 rfl (lv_at hl 0 rfl) ?_
    refine lv_iconst (v := nI 1) hz.1 hz.2.1 dX6_strength_10 (by decide) ?_
    refine lv_iadd hz.1 hz.2.1 dX6_strength_11 ?_
    refine toe (z := nI (st + 1)) (nI_add _ _) ?_
    exact rd_iret hz hr hlk dX6_strength_12 (by simp [sStr, c_2])
  · refine lv_iconst (v := nI 3) hz.1 hz.2.1 dX6_strength_5 (by decide) ?_
    refine lv_goto (tgt := 12) hz.1 hz.2.1 dX6_strength_6 (by decide) ?_
    exact rd_iret hz hr hlk dX6_strength_12 (by simp [sStr, c_2])

set_option maxHeartbeats 4000000 in
set_option maxRecDepth 100000 in
theorem c6_noteBy (l_ : Launch) (kd t f : Nat) (h1 : kd < 1000) (h2 : t < 1000) (h3 : f < 1000) : Met l_ yX6_noteBy wsX6_noteBy ({ frames := 0, cells := 0, slots := 0, locals := 0 }) (va_Pc [.int (nI kd), .int (nI t), .int (nI f)] (fun _ => True)) (QcRead (nI (sNoteBy kd t f))) 0 0 (fun _ => False) := by
  refine my_entry (cc := cX6_noteBy) (maxL := 4) (ret := some .int) (by decide) rfl (Nat.le_of_ble_eq_true rfl) ?_
  intro p_ e_ s_ m_ bl_ me_ c_ hz hr hlk hB ls hl
  have hl : lv_has ls 4 [(0, .int (nI kd)), (1, .int (nI t)), (2, .int (nI f))] := hl
  refine lv_iload_n hz.1 hz.2.1 dX6_noteBy_0 rfl (lv_at hl 0 rfl) ?_
  refine lv_iconst (v := nI 3) hz.1 hz.2.1 dX6_noteBy_1 (by decide) ?_
  refine jne (tgt := 12) hz dX6_noteBy_2 (by decide) (by omega) (by omega) (fun c_2 => ?_) (fun c_2 => ?_)
  · refine lv_iload_n hz.1 hz.2.1 dX6_noteBy_12 rfl (lv_at hl 0 rfl) ?_
    refine lv_iconst (v := nI 2) hz.1 hz.2.1 dX6_noteBy_13 (by decide) ?_
    refine jne (tgt := 26) hz dX6_noteBy_14 (by decide) (by omega) (by omega) (fun c_14 => ?_) (fun c_14 => ?_)
    · refine lv_iload_n hz.1 hz.2.1 dX6_noteBy_26 rfl (lv_at hl 1 rfl) ?_
      refine lv_iload_n hz.1 hz.2.1 dX6_noteBy_27 rfl (lv_at hl 2 rfl) ?_
      refine lv_iadd hz.1 hz.2.1 dX6_noteBy_28 ?_
      refine toe (z := nI (t + f)) (nI_add _ _) ?_
      refine lv_istore_n (lv' := [(3, .int (nI (t + f))), (0, .int (nI kd)), (1, .int (nI t)), (2, .int (nI f))]) hz.1 hz.2.1 dX6_noteBy_29 rfl hl (by decide) rfl (fun ls hl => ?_)
      refine lv_iload_n hz.1 hz.2.1 dX6_noteBy_30 rfl (lv_at hl 0 rfl) ?_
      refine lv_bipush (v := nI 12) hz.1 hz.2.1 dX6_noteBy_31 (by decide) ?_
      refine lv_irem hz.1 hz.2.1 dX6_noteBy_33 (nI_ne0 (by omega) (by omega)) ?_
      refine toe (z := nI ((t + f) % 12)) (pk_rem (by omega) (by omega) (by omega)) ?_
      exact rd_iret hz hr hlk dX6_noteBy_34 (by simp [sNoteBy, *])
    · refine lv_iload_n hz.1 hz.2.1 dX6_noteBy_17 rfl (lv_at hl 1 rfl) ?_
      refine lv_iload_n hz.1 hz.2.1 dX6_noteBy_18 rfl (lv_at hl 2 rfl) ?_
      refine lv_iadd hz.1 hz.2.1 dX6_noteBy_19 ?_
      refine toe (z := nI (t + f)) (nI_add _ _) ?_
      refine lv_bipush (v := nI 11) hz.1 hz.2.1 dX6_noteBy_20 (by decide) ?_
      refine lv_iadd hz.1 hz.2.1 dX6_noteBy_22 ?_
      refine toe (z := nI ((t + f) + 11)) (nI_add _ _) ?_
      refine lv_goto (tgt := 29) hz.1 hz.2.1 dX6_noteBy_23 (by decide) ?_
      refine lv_istore_n (lv' := [(3, .int (nI ((t + f) + 11))), (0, .int (nI kd)), (1, .int (nI t)), (2, .int (nI f))]) hz.1 hz.2.1 dX6_noteBy_29 rfl hl (by decide) rfl (fun ls hl => ?_)
      refine lv_iload_n hz.1 hz.2.1 dX6_noteBy_30 rfl (lv_at hl 0 rfl) ?_
      refine lv_bipush (v := nI 12) hz.1 hz.2.1 dX6_noteBy_31 (by decide) ?_
      refine lv_irem hz.1 hz.2.1 dX6_noteBy_33 (nI_ne0 (by omega) (by omega)) ?_
      refine toe (z := nI (((t + f) + 11) % 12)) (pk_rem (by omega) (by omega) (by omega)) ?_
      exact rd_iret hz hr hlk dX6_noteBy_34 (by simp [sNoteBy, *])
  · refine lv_iload_n hz.1 hz.2.1 dX6_noteBy_5 rfl (lv_at hl 1 rfl) ?_
    refine lv_bipush (v := nI 11) hz.1 hz.2.1 dX6_noteBy_6 (by decide) ?_
    refine lv_iadd hz.1 hz.2.1 dX6_noteBy_8 ?_
    refine toe (z := nI (t + 11)) (nI_add _ _) ?_
    refine lv_goto (tgt := 29) hz.1 hz.2.1 dX6_noteBy_9 (by decide) ?_
    refine lv_istore_n (lv' := [(3, .int (nI (t + 11))), (0, .int (nI kd)), (1, .int (nI t)), (2, .int (nI f))]) hz.1 hz.2.1 dX6_noteBy_29 rfl hl (by decide) rfl (fun ls hl => ?_)
    refine lv_iload_n hz.1 hz.2.1 dX6_noteBy_30 rfl (lv_at hl 0 rfl) ?_
    refine lv_bipush (v := nI 12) hz.1 hz.2.1 dX6_noteBy_31 (by decide) ?_
    refine lv_irem hz.1 hz.2.1 dX6_noteBy_33 (nI_ne0 (by omega) (by omega)) ?_
    refine toe (z := nI ((t + 11) % 12)) (pk_rem (by omega) (by omega) (by omega)) ?_
    exact rd_iret hz hr hlk dX6_noteBy_34 (by simp [sNoteBy, *])

set_option maxHeartbeats 4000000 in
set_option maxRecDepth 100000 in
theorem c6_far (l_ : Launch) (p w : Nat) (h1 : p < 1000) (h2 : w < 1000) : Met l_ yX6_far wsX6_far ({ frames := 0, cells := 0, slots := 0, locals := 0 }) (va_Pc [.int (nI p), .int (nI w)] (fun _ => True)) (QcRead (nI (sFar p w))) 0 0 (fun _ => False) := by
  refine my_entry (cc := cX6_far) (maxL := 2) (ret := some .int) (by decide) rfl (Nat.le_of_ble_eq_true rfl) ?_
  intro p_ e_ s_ m_ bl_ me_ c_ hz hr hlk hB ls hl
  have hl : lv_has ls 2 [(0, .int (nI p)), (1, .int (nI w))] := hl
  refine lv_iload_n hz.1 hz.2.1 dX6_far_0 rfl (lv_at hl 0 rfl) ?_
  refine lv_iload_n hz.1 hz.2.1 dX6_far_1 rfl (lv_at hl 1 rfl) ?_
  refine jgt (tgt := 11) hz dX6_far_2 (by decide) (by omega) (by omega) (fun c_2 => ?_) (fun c_2 => ?_)
  · refine lv_iload_n hz.1 hz.2.1 dX6_far_11 rfl (lv_at hl 0 rfl) ?_
    refine lv_iload_n hz.1 hz.2.1 dX6_far_12 rfl (lv_at hl 1 rfl) ?_
    refine lv_isub hz.1 hz.2.1 dX6_far_13 ?_
    refine toe (z := nI (p - w)) (pk_sub (by omega)) ?_
    refine lv_iconst (v := nI 1) hz.1 hz.2.1 dX6_far_14 (by decide) ?_
    refine lv_isub hz.1 hz.2.1 dX6_far_15 ?_
    refine toe (z := nI ((p - w) - 1)) (pk_sub (by omega)) ?_
    exact rd_iret hz hr hlk dX6_far_16 (by simp [sFar, c_2])
  · refine lv_iload_n hz.1 hz.2.1 dX6_far_5 rfl (lv_at hl 1 rfl) ?_
    refine lv_iload_n hz.1 hz.2.1 dX6_far_6 rfl (lv_at hl 0 rfl) ?_
    refine lv_isub hz.1 hz.2.1 dX6_far_7 ?_
    refine toe (z := nI (w - p)) (pk_sub (by omega)) ?_
    refine lv_goto (tgt := 16) hz.1 hz.2.1 dX6_far_8 (by decide) ?_
    exact rd_iret hz hr hlk dX6_far_16 (by simp [sFar, c_2])

theorem hinX6_line : ∀ w ∈ wsX60, w ∈ wsX6_line := fun _ h => List.mem_cons_of_mem _ (List.mem_append_right _ h)
set_option maxHeartbeats 4000000 in
set_option maxRecDepth 100000 in
theorem c6_line (l_ : Launch) (D : va_G) (k : Nat → ClassId) (b I J : Nat → Nat) (G : Nat → Nat → Nat)   : Met l_ yX6_line wsX6_line ({ frames := 0, cells := 0, slots := 0, locals := 0 }) (va_Pc [.ref (b 0)] (wH YT D k (mw b k I J G))) (QcRead (nI (G 0 0))) 0 0 (fun _ => False) := by
  refine my_entry (cc := cX6_line) (maxL := 1) (ret := some .int) (by decide) rfl (Nat.le_of_ble_eq_true rfl) ?_
  intro p_ e_ s_ m_ bl_ me_ c_ hz hr hlk hB ls hl
  obtain ⟨hP, hK, hD0, -⟩ := hB
  have hD := wA.self hD0
  have hS : va_S (wA (mw b k I J G)) s_.heap s_.heap [] := va_S.rf
  have hl : lv_has ls 1 [(0, .ref (b 0))] := hl
  refine lv_aload_n hz.1 hz.2.1 dX6_line_0 rfl (lv_at hl 0 rfl) ?_
  refine rg hz hinX6_line hK hP 0 rfl rfl 0 (by decide) (List.mem_of_getElem? (i := 1) rfl) rfl (v := .ref (b 1)) rfl dX6_line_1 ?_
  refine lv_iconst (v := nI 0) hz.1 hz.2.1 dX6_line_4 (by decide) ?_
  refine rald hz hK hP 1 0 rfl rfl (i := 0) (by omega) (by decide) (v := nI (G 0 0)) rfl dX6_line_5 ?_
  exact rd_iret hz hr hlk dX6_line_6 (rfl)

theorem hinX6_wires : ∀ w ∈ wsX60, w ∈ wsX6_wires := fun _ h => List.mem_cons_of_mem _ (List.mem_append_right _ h)
set_option maxHeartbeats 4000000 in
set_option maxRecDepth 100000 in
theorem c6_wires (l_ : Launch) (D : va_G) (k : Nat → ClassId) (b I J : Nat → Nat) (G : Nat → Nat → Nat)  (h : 1 ≤ G 0 0) : Met l_ yX6_wires wsX6_wires ({ frames := 0, cells := 0, slots := 0, locals := 0 }) (va_Pc [.ref (b 0)] (wH YT D k (mw b k I J G))) (QcRead (nI (G 0 0 - 1))) 0 0 (fun _ => False) := by
  refine my_entry (cc := cX6_wires) (maxL := 1) (ret := some .int) (by decide) rfl (Nat.le_of_ble_eq_true rfl) ?_
  intro p_ e_ s_ m_ bl_ me_ c_ hz hr hlk hB ls hl
  obtain ⟨hP, hK, hD0, -⟩ := hB
  have hD := wA.self hD0
  have hS : va_S (wA (mw b k I J G)) s_.heap s_.heap [] := va_S.rf
  have hl : lv_has ls 1 [(0, .ref (b 0))] := hl
  refine lv_aload_n hz.1 hz.2.1 dX6_wires_0 rfl (lv_at hl 0 rfl) ?_
  refine rg hz hinX6_wires hK hP 0 rfl rfl 0 (by decide) (List.mem_of_getElem? (i := 1) rfl) rfl (v := .ref (b 1)) rfl dX6_wires_1 ?_
  refine lv_iconst (v := nI 0) hz.1 hz.2.1 dX6_wires_4 (by decide) ?_
  refine rald hz hK hP 1 0 rfl rfl (i := 0) (by omega) (by decide) (v := nI (G 0 0)) rfl dX6_wires_5 ?_
  refine lv_iconst (v := nI 1) hz.1 hz.2.1 dX6_wires_6 (by decide) ?_
  refine lv_isub hz.1 hz.2.1 dX6_wires_7 ?_
  refine toe (z := nI ((G 0 0) - 1)) (pk_sub (by omega)) ?_
  exact rd_iret hz hr hlk dX6_wires_8 (rfl)
