theorem va_D.same2 {A : Nat → Prop} {ws ws1 : va_W} (h : va_D A ws) (L : List Nat) (e1 : ws1.map (fun q => q.1) = L) (e : ws.map (fun q => q.1) = L) : va_D A ws1 := h.same (e1.trans e.symm)
theorem sTy_0 (f : Nat → Nat) (a : Nat) (v : Int64) (n : Nat) : sTy f a v n 0 = f := rfl
theorem sTy_s (f : Nat → Nat) (a : Nat) (v : Int64) (n i : Nat) : sTy f a v n (i + 1) = nset (sTy f a v n i) (a + i) (sByte v (n - 1 - i)) := rfl
theorem hinX1_append_X1 : ∀ w ∈ wsX10, w ∈ wsX1_append := fun _ h => List.mem_cons_of_mem _ (List.mem_append_right _ h)
set_option maxHeartbeats 4000000 in
set_option maxRecDepth 100000 in
theorem c1_append (l_ : Launch) (D : va_G) (k : Nat → ClassId) (a : Nat → Nat) (tS : Nat) (sk sv : Nat → Nat) (X : Nat → Nat) (T : Nat → Nat) (v : Int64) (n : Nat) (h1 : 1 ≤ n) (h2 : n ≤ 8) (h3 : X 0 + n ≤ 200) : Met l_ yX1_append wsX1_append ({ frames := 0, cells := 0, slots := 0, locals := 0 }) (va_Pc [.ref (a 35), .long v, .int (nI n)] (wH (Am tS sk sv) D k (tw a k X T))) (va_Qv (fun (u : Unit) => True) (fun (u : Unit) (t_ : State) => va_P D vwCl ((fun (_ : Unit) => tw a k (nset X 0 (X 0 + n)) (sTy T (X 0) v n n)) u) t_.heap) (wA (tw a k X T))) 0 0 (wA (tw a k X T)) := by
  refine my_entry (cc := cX1_append) (maxL := 5) (ret := none) (by decide) rfl (Nat.le_of_ble_eq_true rfl) ?_
  intro p_ e_ s_ m_ bl_ me_ c_ hz hr hlk hB ls hl
  obtain ⟨hP, hK, hD0, hy⟩ := hB
  have hD := wA.self hD0
  have hS : va_S (wA (tw a k X T)) s_.heap s_.heap [] := va_S.rf
  have hl : lv_has ls 5 [(0, .ref (a 35)), (1, .long v), (3, .int (nI n))] := hl
  refine lv_iload_n hz.1 hz.2.1 dX1_append_0 rfl (lv_at hl 2 rfl) ?_
  refine lv_iconst (v := nI 1) hz.1 hz.2.1 dX1_append_1 (by decide) ?_
  refine lv_isub hz.1 hz.2.1 dX1_append_2 ?_
  refine toe (z := nI (n - 0) - nI 1) (rfl) ?_
  refine lv_istore (lv' := [(4, .int (nI (n - 0) - nI 1)), (0, .ref (a 35)), (1, .long v), (3, .int (nI n))]) hz.1 hz.2.1 dX1_append_3 hl (by decide) rfl (fun ls hl => ?_)
  have lp_5 : ∀ (fu : Nat) (j : Nat), (j ≤ n) → n - j < fu → ∀ ls : Array Slot, ∀ (H : Heap) (locs : List Loc), va_P D vwCl (tw a k (nset X 0 (X 0 + j)) (sTy T (X 0) v n j)) H → va_S (wA (tw a k X T)) s_.heap H locs → lv_has ls 5 [(0, .ref (a 35)), (1, .long v), (3, .int (nI n)), (4, .int (nI (n - j) - nI 1))] → W p_ l_ e_ ({ frames := 0, cells := 0, slots := 0, locals := 0 }) s_ m_ [.ref (a 35), .long v, .int (nI n)].toArray bl_ me_ c_ H locs 0 0 (MQ bl_ (va_Qv (fun (u : Unit) => True) (fun (u : Unit) (t_ : State) => va_P D vwCl ((fun (_ : Unit) => tw a k (nset X 0 (X 0 + n)) (sTy T (X 0) v n n)) u) t_.heap) (wA (tw a k X T))) [.ref (a 35), .long v, .int (nI n)].toArray s_ 0 0 (wA (tw a k X T))) (F0 m_ 5 ls []) := by
    intro fu
    induction fu with
    | zero => intro j hj hm; exact absurd hm (Nat.not_lt_zero _)
    | succ fu ih5 =>
      intro j hj hm ls H locs hP hS hl
      have hD : va_D (wA (tw a k X T)) (tw a k (nset X 0 (X 0 + j)) (sTy T (X 0) v n j)) := hD.same2 [a 35, a 36] rfl rfl
      refine lv_iload hz.1 hz.2.1 dX1_append_5 (lv_at hl 3 rfl) ?_
      refine lv_if_lt (tgt := 54) hz.1 hz.2.1 dX1_append_7 (by decide) (fun c_7 => ?_) (fun c_7 => ?_)
      · obtain rfl : n = j := by
          rcases Nat.lt_or_ge j n with q | q
          · exfalso; rw [pk_sub (by omega)] at c_7; exact nI_pos (by omega) c_7
          · omega
        exact wr_vret hz hr hlk dX1_append_54 hS (()) hP (trivial)
      · have hin : j < n := by
          rcases Nat.lt_or_ge j n with q | q
          · exact q
          · exfalso; apply c_7; rw [show n - j = 0 by omega]; decide
        rw [pk_sub (a := n - j) (b := 1) (by omega), show n - j - 1 = n - 1 - j by omega] at hl
        refine lv_aload_n hz.1 hz.2.1 dX1_append_10 rfl (lv_at hl 0 rfl) ?_
        refine rg (T := TX1) (N := 5) hz hinX1_append_X1 hK hP 0 rfl rfl 0 (by decide) (List.mem_of_getElem? (i := 1) rfl) rfl (v := .int (nI (X 0 + j))) rfl dX1_append_11 ?_
        refine lv_sipush (v := nI 200) hz.1 hz.2.1 dX1_append_14 (by decide) ?_
        refine jge (tgt := 54) hz dX1_append_17 (by decide) (by omega) (by omega) (fun c_17 => ?_) (fun c_17 => ?_)
        · exact absurd c_17 (by omega)
        · refine lv_aload_n hz.1 hz.2.1 dX1_append_20 rfl (lv_at hl 0 rfl) ?_
          refine rg (T := TX1) (N := 5) hz hinX1_append_X1 hK hP 0 rfl rfl 1 (by decide) (List.mem_of_getElem? (i := 2) rfl) rfl (v := .ref (a 36)) rfl dX1_append_21 ?_
          refine lv_aload_n hz.1 hz.2.1 dX1_append_24 rfl (lv_at hl 0 rfl) ?_
          refine rg (T := TX1) (N := 5) hz hinX1_append_X1 hK hP 0 rfl rfl 0 (by decide) (List.mem_of_getElem? (i := 1) rfl) rfl (v := .int (nI (X 0 + j))) rfl dX1_append_25 ?_
          refine lv_lload_n hz.1 hz.2.1 dX1_append_28 rfl (lv_at hl 1 rfl) ?_
          refine lv_bipush (v := nI 8) hz.1 hz.2.1 dX1_append_29 (by decide) ?_
          refine lv_iload hz.1 hz.2.1 dX1_append_31 (lv_at hl 3 rfl) ?_
          refine lv_imul hz.1 hz.2.1 dX1_append_33 ?_
          refine toe (z := nI (8 * (n - 1 - j))) (pk_mul _ _) ?_
          refine lv_lshr (v := v >>> ((nI (8 * (n - 1 - j))).toInt64 &&& 63)) hz.1 hz.2.1 dX1_append_34 (rfl) ?_
          refine lv_l2i (v := (v >>> ((nI (8 * (n - 1 - j))).toInt64 &&& 63)).toInt32) hz.1 hz.2.1 dX1_append_35 (rfl) ?_
          refine lv_i2b (v := sb (sByte v (n - 1 - j))) hz.1 hz.2.1 dX1_append_36 (sb_byt v (by omega)) ?_
          refine rbast hz hK hP hD hS 1 1 rfl rfl (i := (X 0 + j)) (v := (sByte v (n - 1 - j))) (by omega) (by decide) dX1_append_37 (fun H locs hP hS => ?_)
          have hP : va_P D vwCl (tw a k (nset X 0 (X 0 + j)) (nset (sTy T (X 0) v n j) (X 0 + j) (sByte v (n - 1 - j)))) H := hP
          have hD : va_D (wA (tw a k X T)) (tw a k (nset X 0 (X 0 + j)) (nset (sTy T (X 0) v n j) (X 0 + j) (sByte v (n - 1 - j)))) := hD.same2 [a 35, a 36] rfl rfl
          refine lv_aload_n hz.1 hz.2.1 dX1_append_38 rfl (lv_at hl 0 rfl) ?_
          refine lv_dup hz.1 hz.2.1 dX1_append_39 rfl ?_
          refine rg (T := TX1) (N := 5) hz hinX1_append_X1 hK hP 0 rfl rfl 0 (by decide) (List.mem_of_getElem? (i := 1) rfl) rfl (v := .int (nI (X 0 + j))) rfl dX1_append_40 ?_
          refine lv_iconst (v := nI 1) hz.1 hz.2.1 dX1_append_43 (by decide) ?_
          refine lv_iadd hz.1 hz.2.1 dX1_append_44 ?_
          refine toe (z := nI ((X 0 + j) + 1)) (nI_add _ _) ?_
          refine rput (v := .int (nI ((X 0 + j) + 1))) (ty := .int) (T := TX1) (N := 5) hz hinX1_append_X1 tyX1 tyX1_ok nmX1 hK hP hD hS 0 rfl rfl 0 (by decide) (List.mem_of_getElem? (i := 1) rfl) rfl rfl (by decide +kernel) rfl rfl (Nat.le_of_ble_eq_true rfl) dX1_append_45 (fun H locs hP hS => ?_)
          have hP : va_P D vwCl (tw a k (nset X 0 ((X 0 + j) + 1)) (nset (sTy T (X 0) v n j) (X 0 + j) (sByte v (n - 1 - j)))) H := hP
          have hD : va_D (wA (tw a k X T)) (tw a k (nset X 0 ((X 0 + j) + 1)) (nset (sTy T (X 0) v n j) (X 0 + j) (sByte v (n - 1 - j)))) := hD.same2 [a 35, a 36] rfl rfl
          refine lv_iinc (v := nI (n - (j + 1)) - nI 1) (lv' := [(4, .int (nI (n - (j + 1)) - nI 1)), (0, .ref (a 35)), (1, .long v), (3, .int (nI n))]) hz.1 hz.2.1 dX1_append_48 hl (k := 3) rfl (by rw [nI_m1, show n - 1 - j = n - (j + 1) by omega]) (by decide) rfl (fun ls hl => ?_)
          refine lv_goto (tgt := 5) hz.1 hz.2.1 dX1_append_51 (by decide) ?_
          have hP : va_P D vwCl (tw a k (nset X 0 (X 0 + (j + 1))) (sTy T (X 0) v n (j + 1))) H := by rw [sTy_s]; exact hP
          exact ih5 (j + 1) (by omega) (by omega) ls H locs hP hS (lv_sub hl [1, 2, 3, 0] rfl)
  have hP : va_P D vwCl (tw a k (nset X 0 (X 0 + 0)) (sTy T (X 0) v n 0)) s_.heap := by rw [sTy_0]; exact hP
  exact lp_5 _ 0 (by omega) (Nat.lt_succ_self _) ls _ _ hP hS (lv_sub hl [1, 2, 3, 0] rfl)
