set_option maxHeartbeats 4000000 in
set_option maxRecDepth 100000 in
theorem c6_lowest (l_ : Launch) (x : Nat) (hx : x < 4096) (h0 : x ≠ 0) : Met l_ yX6_lowest wsX6_lowest ({ frames := 0, cells := 0, slots := 0, locals := 0 }) (va_Pc [.int (nI x)] (fun _ => True)) (QcRead (nI (sLow x))) 0 0 (fun _ => False) := by
  refine my_entry (cc := cX6_lowest) (maxL := 2) (ret := some .int) (by decide) rfl (Nat.le_of_ble_eq_true rfl) ?_
  intro p_ e_ s_ m_ bl_ me_ c_ hz hr hlk hB ls hl
  have hl : lv_has ls 2 [(0, .int (nI x))] := hl
  refine lv_iconst (v := nI 0) hz.1 hz.2.1 dX6_lowest_0 (by decide) ?_
  refine lv_istore_n (lv' := [(1, .int (nI 0)), (0, .int (nI x))]) hz.1 hz.2.1 dX6_lowest_1 rfl hl (by decide) rfl (fun ls hl => ?_)
  have lp_2 : ∀ (fu : Nat) (t : Nat), (t ≤ 12) → (∀ i, i < t → x.testBit i = false) → (sLowF x (12 - t) t = sLow x) → 12 - t < fu → ∀ ls : Array Slot, lv_has ls 2 [(0, .int (nI x)), (1, .int (nI t))] → W p_ l_ e_ ({ frames := 0, cells := 0, slots := 0, locals := 0 }) s_ m_ [.int (nI x)].toArray bl_ me_ c_ s_.heap [] 0 0 (MQ bl_ (QcRead (nI (sLow x))) [.int (nI x)].toArray s_ 0 0 (fun _ => False)) (F0 m_ 2 ls []) := by
    intro fu
    induction fu with
    | zero => intro t ht hb he hm; exact absurd hm (Nat.not_lt_zero _)
    | succ fu ih2 =>
      intro t ht hb he hm ls hl
      refine lv_iload_n hz.1 hz.2.1 dX6_lowest_2 rfl (lv_at hl 0 rfl) ?_
      refine lv_iload_n hz.1 hz.2.1 dX6_lowest_3 rfl (lv_at hl 1 rfl) ?_
      refine lv_ishr hz.1 hz.2.1 dX6_lowest_4 ?_
      refine toe (z := nI (x / 2 ^ t)) (nI_shr (by omega) (by omega)) ?_
      refine lv_iconst (v := nI 1) hz.1 hz.2.1 dX6_lowest_5 (by decide) ?_
      refine lv_iand hz.1 hz.2.1 dX6_lowest_6 ?_
      refine toe (z := nI ((x / 2 ^ t) % 2)) (nI_and1 _) ?_
      refine jne0 (tgt := 16) hz dX6_lowest_7 (by decide) (by omega) (fun c_7 => ?_) (fun c_7 => ?_)
      · refine lv_iload_n hz.1 hz.2.1 dX6_lowest_16 rfl (lv_at hl 1 rfl) ?_
        exact rd_iret hz hr hlk dX6_lowest_17 (by rw [← he, sLowF_hit (tb_n0.mp c_7)])
      · have hlt := low_go hx h0 ht hb
        have c7 := tb_0.mp c_7
        refine lv_iinc (v := nI (t + 1)) (lv' := [(1, .int (nI (t + 1))), (0, .int (nI x))]) hz.1 hz.2.1 dX6_lowest_10 hl (k := 1) rfl (nI_add _ 1) (by decide) rfl (fun ls hl => ?_)
        refine lv_goto (tgt := 2) hz.1 hz.2.1 dX6_lowest_13 (by decide) ?_
        exact ih2 (t + 1) (by omega) (fun i hi => by rcases Nat.lt_or_ge i t with q | q; exact hb i q; rw [show i = t by omega]; exact c7) ((sLowF_go c7 hlt).symm.trans he) (by omega) ls (lv_sub hl [1, 0] rfl)
  exact lp_2 _ 0 (by omega) (fun i hi => absurd hi (Nat.not_lt_zero i)) (rfl) (Nat.lt_succ_self _) ls (lv_sub hl [1, 0] rfl)

theorem hinX6_mayBe : ∀ w ∈ wsX60, w ∈ wsX6_mayBe := fun _ h => List.mem_cons_of_mem _ (List.mem_append_right _ h)
set_option maxHeartbeats 4000000 in
set_option maxRecDepth 100000 in
theorem c6_mayBe (l_ : Launch) (D : va_G) (k : Nat → ClassId) (b I J : Nat → Nat) (G : Nat → Nat → Nat) (w T : Nat) (hf : Wf (G 0)) (hw : w < (G 0 0 - 1)) (hT : T < 256) (hA : sAkG (G 0) (G 6)) (htn : ∀ v, v < (G 0 0 - 1) → T.testBit v = true → G 5 v < 12) : Met l_ yX6_mayBe wsX6_mayBe ({ frames := 1, cells := 0, slots := 0, locals := 20 }) (va_Pc [.ref (b 0), .int (nI w), .int (nI T)] (wH YT D k (mw b k I J G))) (QcRead (nI (sMayF (G 0) (G 5) T w (G 0 0 - 1)))) 0 0 (fun _ => False) := by
  refine my_entry (cc := cX6_mayBe) (maxL := 5) (ret := some .int) (by decide) rfl (Nat.le_of_ble_eq_true rfl) ?_
  intro p_ e_ s_ m_ bl_ me_ c_ hz hr hlk hB ls hl
  obtain ⟨hP, hK, hD0, -⟩ := hB
  have hD := wA.self hD0
  have hS : va_S (wA (mw b k I J G)) s_.heap s_.heap [] := va_S.rf
  have hl : lv_has ls 5 [(0, .ref (b 0)), (1, .int (nI w)), (2, .int (nI T))] := hl
  have f0 := hf.n2
  have f1 := hf.n9
  have f2 := hf.fr
  have f3 := hf.gd
  refine lv_sipush (v := nI 4095) hz.1 hz.2.1 dX6_mayBe_0 (by decide) ?_
  refine lv_istore_n (lv' := [(3, .int (nI 4095)), (0, .ref (b 0)), (1, .int (nI w)), (2, .int (nI T))]) hz.1 hz.2.1 dX6_mayBe_3 rfl hl (by decide) rfl (fun ls hl => ?_)
  refine lv_iconst (v := nI 0) hz.1 hz.2.1 dX6_mayBe_4 (by decide) ?_
  refine lv_istore (lv' := [(4, .int (nI 0)), (3, .int (nI 4095)), (0, .ref (b 0)), (1, .int (nI w)), (2, .int (nI T))]) hz.1 hz.2.1 dX6_mayBe_5 hl (by decide) rfl (fun ls hl => ?_)
  have lp_7 : ∀ (fu : Nat) (v : Nat), (v ≤ (G 0 0 - 1)) → (G 0 0 - 1) - v < fu → ∀ ls : Array Slot, lv_has ls 5 [(0, .ref (b 0)), (1, .int (nI w)), (2, .int (nI T)), (3, .int (nI (sMayF (G 0) (G 5) T w v))), (4, .int (nI v))] → W p_ l_ e_ ({ frames := 1, cells := 0, slots := 0, locals := 20 }) s_ m_ [.ref (b 0), .int (nI w), .int (nI T)].toArray bl_ me_ c_ s_.heap [] 0 0 (MQ bl_ (QcRead (nI (sMayF (G 0) (G 5) T w (G 0 0 - 1)))) [.ref (b 0), .int (nI w), .int (nI T)].toArray s_ 0 0 (fun _ => False)) (F0 m_ 7 ls []) := by
    intro fu
    induction fu with
    | zero => intro v hv hm; exact absurd hm (Nat.not_lt_zero _)
    | succ fu ih7 =>
      intro v hv hm ls hl
      refine lv_iload hz.1 hz.2.1 dX6_mayBe_7 (lv_at hl 4 rfl) ?_
      refine lv_aload_n hz.1 hz.2.1 dX6_mayBe_9 rfl (lv_at hl 0 rfl) ?_
      refine rdV (A := wA (mw b k I J G)) (As := []) (rest := [.int (nI v)]) hz okYT (c6_wires l_ D k b I J G  (show 1 ≤ G 0 0 by omega)) (cwV 0 hz.2.2.2.2 gX6_mayBe_X6_wires rfl rfl rfl (by decide +kernel) ⟨Nat.le_of_ble_eq_true rfl, Nat.le_of_ble_eq_true rfl⟩) hK trivial hP hD hS 0 6 rfl rfl rfl rfl hl.1 rfl (Nat.le_of_ble_eq_true rfl) dX6_mayBe_10 ⟨Nat.zero_le _, Nat.zero_le _⟩ ?_
      refine jge (tgt := 64) hz dX6_mayBe_13 (by decide) (by omega) (by omega) (fun c_13 => ?_) (fun c_13 => ?_)
      · obtain rfl : v = G 0 0 - 1 := by omega
        refine lv_iload_n hz.1 hz.2.1 dX6_mayBe_64 rfl (lv_at hl 3 rfl) ?_
        exact rd_iret hz hr hlk dX6_mayBe_65 (rfl)
      · refine lv_iload_n hz.1 hz.2.1 dX6_mayBe_16 rfl (lv_at hl 3 rfl) ?_
        refine lv_iload_n hz.1 hz.2.1 dX6_mayBe_17 rfl (lv_at hl 2 rfl) ?_
        refine lv_iload hz.1 hz.2.1 dX6_mayBe_18 (lv_at hl 4 rfl) ?_
        refine lv_ishr hz.1 hz.2.1 dX6_mayBe_20 ?_
        refine toe (z := nI (T / 2 ^ v)) (nI_shr (by omega) (by omega)) ?_
        refine lv_iconst (v := nI 1) hz.1 hz.2.1 dX6_mayBe_21 (by decide) ?_
        refine lv_iand hz.1 hz.2.1 dX6_mayBe_22 ?_
        refine toe (z := nI ((T / 2 ^ v) % 2)) (nI_and1 _) ?_
        refine lv_iconst (v := nI 1) hz.1 hz.2.1 dX6_mayBe_23 (by decide) ?_
        refine jne (tgt := 55) hz dX6_mayBe_24 (by decide) (by omega) (by omega) (fun c_24 => ?_) (fun c_24 => ?_)
        · refine lv_iconst (v := (-1)) hz.1 hz.2.1 dX6_mayBe_55 (by decide) ?_
          refine lv_iand hz.1 hz.2.1 dX6_mayBe_56 ?_
          refine toe (z := nI (sMayF (G 0) (G 5) T w (v + 1))) (by rw [nI_andm1, sMayF, if_neg (by rw [tb_f.mp c_24]; decide), Nat.and_zero, Nat.xor_zero]) ?_
          refine lv_istore_n (lv' := [(3, .int (nI (sMayF (G 0) (G 5) T w (v + 1)))), (0, .ref (b 0)), (1, .int (nI w)), (2, .int (nI T)), (4, .int (nI v))]) hz.1 hz.2.1 dX6_mayBe_57 rfl hl (by decide) rfl (fun ls hl => ?_)
          refine lv_iinc (v := nI (v + 1)) (lv' := [(4, .int (nI (v + 1))), (3, .int (nI (sMayF (G 0) (G 5) T w (v + 1)))), (0, .ref (b 0)), (1, .int (nI w)), (2, .int (nI T))]) hz.1 hz.2.1 dX6_mayBe_58 hl (k := 4) rfl (nI_add _ 1) (by decide) rfl (fun ls hl => ?_)
          refine lv_goto (tgt := 7) hz.1 hz.2.1 dX6_mayBe_61 (by decide) ?_
          exact ih7 (v + 1) (by omega) (by omega) ls (lv_sub hl [2, 3, 4, 1, 0] rfl)
        · have t1 := htn v c_13 (tb_t.mp c_24)
          refine lv_aload_n hz.1 hz.2.1 dX6_mayBe_27 rfl (lv_at hl 0 rfl) ?_
          refine rg hz hinX6_mayBe hK hP 0 rfl rfl 8 (by decide) (List.mem_of_getElem? (i := 1) rfl) rfl (v := .ref (b 7)) rfl dX6_mayBe_28 ?_
          refine lv_bipush (v := nI 8) hz.1 hz.2.1 dX6_mayBe_31 (by decide) ?_
          refine lv_iload hz.1 hz.2.1 dX6_mayBe_33 (lv_at hl 4 rfl) ?_
          refine lv_imul hz.1 hz.2.1 dX6_mayBe_35 ?_
          refine toe (z := nI (8 * v)) (pk_mul _ _) ?_
          refine lv_iload_n hz.1 hz.2.1 dX6_mayBe_36 rfl (lv_at hl 1 rfl) ?_
          refine lv_iadd hz.1 hz.2.1 dX6_mayBe_37 ?_
          refine toe (z := nI ((8 * v) + w)) (nI_add _ _) ?_
          refine lv_bipush (v := nI 12) hz.1 hz.2.1 dX6_mayBe_38 (by decide) ?_
          refine lv_imul hz.1 hz.2.1 dX6_mayBe_40 ?_
          refine toe (z := nI (((8 * v) + w) * 12)) (pk_mul _ _) ?_
          refine lv_aload_n hz.1 hz.2.1 dX6_mayBe_41 rfl (lv_at hl 0 rfl) ?_
          refine rg hz hinX6_mayBe hK hP 0 rfl rfl 7 (by decide) (List.mem_of_getElem? (i := 2) rfl) rfl (v := .ref (b 6)) rfl dX6_mayBe_42 ?_
          refine lv_iload hz.1 hz.2.1 dX6_mayBe_45 (lv_at hl 4 rfl) ?_
          refine rald hz hK hP 6 0 rfl rfl (i := v) (by omega) (by decide) (v := nI (G 5 v)) rfl dX6_mayBe_47 ?_
          refine lv_iadd hz.1 hz.2.1 dX6_mayBe_48 ?_
          refine toe (z := nI ((((8 * v) + w) * 12) + (G 5 v))) (nI_add _ _) ?_
          refine rald hz hK hP 7 0 rfl rfl (i := ((((8 * v) + w) * 12) + (G 5 v))) (by omega) (by decide) (v := nI (G 6 ((((8 * v) + w) * 12) + (G 5 v)))) rfl dX6_mayBe_49 ?_
          refine toe (z := nI (sAl (G 0) v w (G 5 v))) (by rw [hA v w _ c_13 hw t1]) ?_
          refine lv_iconst (v := (-1)) hz.1 hz.2.1 dX6_mayBe_50 (by decide) ?_
          refine lv_ixor hz.1 hz.2.1 dX6_mayBe_51 ?_
          refine lv_goto (tgt := 56) hz.1 hz.2.1 dX6_mayBe_52 (by decide) ?_
          refine lv_iand hz.1 hz.2.1 dX6_mayBe_56 ?_
          refine toe (z := nI (sMayF (G 0) (G 5) T w (v + 1))) (by rw [nI_andnot, sMayF, if_pos (tb_t.mp c_24)]) ?_
          refine lv_istore_n (lv' := [(3, .int (nI (sMayF (G 0) (G 5) T w (v + 1)))), (0, .ref (b 0)), (1, .int (nI w)), (2, .int (nI T)), (4, .int (nI v))]) hz.1 hz.2.1 dX6_mayBe_57 rfl hl (by decide) rfl (fun ls hl => ?_)
          refine lv_iinc (v := nI (v + 1)) (lv' := [(4, .int (nI (v + 1))), (3, .int (nI (sMayF (G 0) (G 5) T w (v + 1)))), (0, .ref (b 0)), (1, .int (nI w)), (2, .int (nI T))]) hz.1 hz.2.1 dX6_mayBe_58 hl (k := 4) rfl (nI_add _ 1) (by decide) rfl (fun ls hl => ?_)
          refine lv_goto (tgt := 7) hz.1 hz.2.1 dX6_mayBe_61 (by decide) ?_
          exact ih7 (v + 1) (by omega) (by omega) ls (lv_sub hl [2, 3, 4, 1, 0] rfl)
  exact lp_7 _ 0 (by omega) (Nat.lt_succ_self _) ls (lv_sub hl [2, 3, 4, 1, 0] rfl)

theorem hinX6_layAlike : ∀ w ∈ wsX60, w ∈ wsX6_layAlike := fun _ h => List.mem_cons_of_mem _ (List.mem_append_right _ h)
set_option maxHeartbeats 4000000 in
set_option maxRecDepth 100000 in
theorem c6_layAlike (l_ : Launch) (D : va_G) (k : Nat → ClassId) (b I J : Nat → Nat) (G : Nat → Nat → Nat) (v w : Nat) (hf : Wf (G 0)) (hv : v < (G 0 0 - 1)) (hw : w < (G 0 0 - 1)) (hn : G 4 v < 256) : Met l_ yX6_layAlike wsX6_layAlike ({ frames := 1, cells := 0, slots := 0, locals := 23 }) (va_Pc [.ref (b 0), .int (nI v), .int (nI w)] (wH YT D k (mw b k I J G))) (va_Qv (fun (u : Unit) => True) (fun (u : Unit) (t_ : State) => va_P D vwCl ((fun (_ : Unit) => mw b k I J (gset G 6 (cput (G 6) (sAv (G 4 v) (G 0 (3 + v)) (G 0 (3 + w)) w) ((8 * v + w) * 12) 12))) u) t_.heap) (wA (mw b k I J G))) 0 0 (wA (mw b k I J G)) := by
  refine my_entry (cc := cX6_layAlike) (maxL := 8) (ret := none) (by decide) rfl (Nat.le_of_ble_eq_true rfl) ?_
  intro p_ e_ s_ m_ bl_ me_ c_ hz hr hlk hB ls hl
  obtain ⟨hP, hK, hD0, -⟩ := hB
  have hD := wA.self hD0
  have hS : va_S (wA (mw b k I J G)) s_.heap s_.heap [] := va_S.rf
  have hl : lv_has ls 8 [(0, .ref (b 0)), (1, .int (nI v)), (2, .int (nI w))] := hl
  have f0 := hf.n2
  have f1 := hf.n9
  have f2 := hf.fr
  have f3 := hf.gd
  have k1 := hf.kd (w := v) (by omega)
  have k2 := hf.kd (w := w) (by omega)
  refine lv_iconst (v := nI 0) hz.1 hz.2.1 dX6_layAlike_0 (by decide) ?_
  refine lv_istore_n (lv' := [(3, .int (nI 0)), (0, .ref (b 0)), (1, .int (nI v)), (2, .int (nI w))]) hz.1 hz.2.1 dX6_layAlike_1 rfl hl (by decide) rfl (fun ls hl => ?_)
  have lp_2 : ∀ (fu : Nat) (t : Nat), (t ≤ 12) → 12 - t < fu → ∀ ls : Array Slot, ∀ (H : Heap) (locs : List Loc), va_P D vwCl (mw b k I J (gset G 6 (cput (G 6) (sAv (G 4 v) (G 0 (3 + v)) (G 0 (3 + w)) w) ((8 * v + w) * 12) t))) H → va_S (wA (mw b k I J G)) s_.heap H locs → lv_has ls 8 [(0, .ref (b 0)), (1, .int (nI v)), (2, .int (nI w)), (3, .int (nI t))] → W p_ l_ e_ ({ frames := 1, cells := 0, slots := 0, locals := 23 }) s_ m_ [.ref (b 0), .int (nI v), .int (nI w)].toArray bl_ me_ c_ H locs 0 0 (MQ bl_ (va_Qv (fun (u : Unit) => True) (fun (u : Unit) (t_ : State) => va_P D vwCl ((fun (_ : Unit) => mw b k I J (gset G 6 (cput (G 6) (sAv (G 4 v) (G 0 (3 + v)) (G 0 (3 + w)) w) ((8 * v + w) * 12) 12))) u) t_.heap) (wA (mw b k I J G))) [.ref (b 0), .int (nI v), .int (nI w)].toArray s_ 0 0 (wA (mw b k I J G))) (F0 m_ 2 ls []) := by
    intro fu
    induction fu with
    | zero => intro t ht hm; exact absurd hm (Nat.not_lt_zero _)
    | succ fu ih2 =>
      intro t ht hm ls H locs hP hS hl
      have hD := mw_D (I' := I) (J' := J) (G' := gset G 6 (cput (G 6) (sAv (G 4 v) (G 0 (3 + v)) (G 0 (3 + w)) w) ((8 * v + w) * 12) t)) hD
      refine lv_iload_n hz.1 hz.2.1 dX6_layAlike_2 rfl (lv_at hl 3 rfl) ?_
      refine lv_bipush (v := nI 12) hz.1 hz.2.1 dX6_layAlike_3 (by decide) ?_
      refine jge (tgt := 142) hz dX6_layAlike_5 (by decide) (by omega) (by omega) (fun c_5 => ?_) (fun c_5 => ?_)
      · obtain rfl : t = 12 := by omega
        exact wr_vret hz hr hlk dX6_layAlike_142 hS (()) hP (trivial)
      · refine lv_iconst (v := nI 0) hz.1 hz.2.1 dX6_layAlike_8 (by decide) ?_
        refine lv_istore (lv' := [(4, .int (nI 0)), (0, .ref (b 0)), (1, .int (nI v)), (2, .int (nI w)), (3, .int (nI t))]) hz.1 hz.2.1 dX6_layAlike_9 hl (by decide) rfl (fun ls hl => ?_)
        refine lv_iconst (v := nI 0) hz.1 hz.2.1 dX6_layAlike_11 (by decide) ?_
        refine lv_istore (lv' := [(5, .int (nI 0)), (4, .int (nI 0)), (0, .ref (b 0)), (1, .int (nI v)), (2, .int (nI w)), (3, .int (nI t))]) hz.1 hz.2.1 dX6_layAlike_12 hl (by decide) rfl (fun ls hl => ?_)
        have lp_14 : ∀ (fu : Nat) (u : Nat), (u ≤ 12) → 12 - u < fu → ∀ ls : Array Slot, lv_has ls 8 [(0, .ref (b 0)), (1, .int (nI v)), (2, .int (nI w)), (3, .int (nI t)), (4, .int (nI (sAlR (G 0 (3 + v)) (G 0 (3 + w)) t u))), (5, .int (nI u))] → W p_ l_ e_ ({ frames := 1, cells := 0, slots := 0, locals := 23 }) s_ m_ [.ref (b 0), .int (nI v), .int (nI w)].toArray bl_ me_ c_ H locs 0 0 (MQ bl_ (va_Qv (fun (u : Unit) => True) (fun (u : Unit) (t_ : State) => va_P D vwCl ((fun (_ : Unit) => mw b k I J (gset G 6 (cput (G 6) (sAv (G 4 v) (G 0 (3 + v)) (G 0 (3 + w)) w) ((8 * v + w) * 12) 12))) u) t_.heap) (wA (mw b k I J G))) [.ref (b 0), .int (nI v), .int (nI w)].toArray s_ 0 0 (wA (mw b k I J G))) (F0 m_ 14 ls []) := by
          intro fu
          induction fu with
          | zero => intro u hu hm; exact absurd hm (Nat.not_lt_zero _)
          | succ fu ih14 =>
            intro u hu hm ls hl
            refine lv_iload hz.1 hz.2.1 dX6_layAlike_14 (lv_at hl 5 rfl) ?_
            refine lv_bipush (v := nI 12) hz.1 hz.2.1 dX6_layAlike_16 (by decide) ?_
            refine jge (tgt := 100) hz dX6_layAlike_18 (by decide) (by omega) (by omega) (fun c_18 => ?_) (fun c_18 => ?_)
            · obtain rfl : u = 12 := by omega
              have a1 := sAlR_lt (G 0 (3 + v)) (G 0 (3 + w)) t 12 (Nat.le_refl _)
              refine lv_aload_n hz.1 hz.2.1 dX6_layAlike_100 rfl (lv_at hl 0 rfl) ?_
              refine rg hz hinX6_layAlike hK hP 0 rfl rfl 8 (by decide) (List.mem_of_getElem? (i := 2) rfl) rfl (v := .ref (b 7)) rfl dX6_layAlike_101 ?_
              refine lv_bipush (v := nI 8) hz.1 hz.2.1 dX6_layAlike_104 (by decide) ?_
              refine lv_iload_n hz.1 hz.2.1 dX6_layAlike_106 rfl (lv_at hl 1 rfl) ?_
              refine lv_imul hz.1 hz.2.1 dX6_layAlike_107 ?_
              refine toe (z := nI (8 * v)) (pk_mul _ _) ?_
              refine lv_iload_n hz.1 hz.2.1 dX6_layAlike_108 rfl (lv_at hl 2 rfl) ?_
              refine lv_iadd hz.1 hz.2.1 dX6_layAlike_109 ?_
              refine toe (z := nI ((8 * v) + w)) (nI_add _ _) ?_
              refine lv_bipush (v := nI 12) hz.1 hz.2.1 dX6_layAlike_110 (by decide) ?_
              refine lv_imul hz.1 hz.2.1 dX6_layAlike_112 ?_
              refine toe (z := nI (((8 * v) + w) * 12)) (pk_mul _ _) ?_
              refine lv_iload_n hz.1 hz.2.1 dX6_layAlike_113 rfl (lv_at hl 3 rfl) ?_
              refine lv_iadd hz.1 hz.2.1 dX6_layAlike_114 ?_
              refine toe (z := nI ((((8 * v) + w) * 12) + t)) (nI_add _ _) ?_
              refine lv_aload_n hz.1 hz.2.1 dX6_layAlike_115 rfl (lv_at hl 0 rfl) ?_
              refine rg hz hinX6_layAlike hK hP 0 rfl rfl 6 (by decide) (List.mem_of_getElem? (i := 3) rfl) rfl (v := .ref (b 5)) rfl dX6_layAlike_116 ?_
              refine lv_iload_n hz.1 hz.2.1 dX6_layAlike_119 rfl (lv_at hl 1 rfl) ?_
              refine rald hz hK hP 5 0 rfl rfl (i := v) (by omega) (by decide) (v := nI (G 4 v)) rfl dX6_layAlike_120 ?_
              refine lv_iload_n hz.1 hz.2.1 dX6_layAlike_121 rfl (lv_at hl 2 rfl) ?_
              refine lv_ishr hz.1 hz.2.1 dX6_layAlike_122 ?_
              refine toe (z := nI ((G 4 v) / 2 ^ w)) (nI_shr (by omega) (by omega)) ?_
              refine lv_iconst (v := nI 1) hz.1 hz.2.1 dX6_layAlike_123 (by decide) ?_
              refine lv_iand hz.1 hz.2.1 dX6_layAlike_124 ?_
              refine toe (z := nI (((G 4 v) / 2 ^ w) % 2)) (nI_and1 _) ?_
              refine lv_iconst (v := nI 1) hz.1 hz.2.1 dX6_layAlike_125 (by decide) ?_
              refine jne (tgt := 134) hz dX6_layAlike_126 (by decide) (by omega) (by omega) (fun c_126 => ?_) (fun c_126 => ?_)
              · refine lv_iconst (v := nI 0) hz.1 hz.2.1 dX6_layAlike_134 (by decide) ?_
                refine rast hz hK hP hD hS 7 0 rfl rfl (i := ((((8 * v) + w) * 12) + t)) (v := 0) (by omega) (by decide) dX6_layAlike_135 (fun H locs hP hS => ?_)
                have hP : va_P D vwCl (mw b k I J (gset G 6 (nset (cput (G 6) (sAv (G 4 v) (G 0 (3 + v)) (G 0 (3 + w)) w) ((8 * v + w) * 12) t) ((((8 * v) + w) * 12) + t) 0))) H := hP
                have hD := mw_D (I' := I) (J' := J) (G' := gset G 6 (nset (cput (G 6) (sAv (G 4 v) (G 0 (3 + v)) (G 0 (3 + w)) w) ((8 * v + w) * 12) t) ((((8 * v) + w) * 12) + t) 0)) hD
                have hP : va_P D vwCl (mw b k I J (gset G 6 (cput (G 6) (sAv (G 4 v) (G 0 (3 + v)) (G 0 (3 + w)) w) ((8 * v + w) * 12) (t + 1)))) H := by rw [← cput_s, sAv, if_neg (by rw [tb_f.mp c_126]; decide)]; exact hP
                have hD := mw_D (I' := I) (J' := J) (G' := gset G 6 (cput (G 6) (sAv (G 4 v) (G 0 (3 + v)) (G 0 (3 + w)) w) ((8 * v + w) * 12) (t + 1))) hD
                refine lv_iinc (v := nI (t + 1)) (lv' := [(3, .int (nI (t + 1))), (0, .ref (b 0)), (1, .int (nI v)), (2, .int (nI w)), (4, .int (nI (sAlR (G 0 (3 + v)) (G 0 (3 + w)) t 12))), (5, .int (nI 12))]) hz.1 hz.2.1 dX6_layAlike_136 hl (k := 3) rfl (nI_add _ 1) (by decide) rfl (fun ls hl => ?_)
                refine lv_goto (tgt := 2) hz.1 hz.2.1 dX6_layAlike_139 (by decide) ?_
                exact ih2 (t + 1) (by omega) (by omega) ls H locs hP hS (lv_sub hl [1, 2, 3, 0] rfl)
              · refine lv_iload hz.1 hz.2.1 dX6_layAlike_129 (lv_at hl 4 rfl) ?_
                refine lv_goto (tgt := 135) hz.1 hz.2.1 dX6_layAlike_131 (by decide) ?_
                refine rast hz hK hP hD hS 7 0 rfl rfl (i := ((((8 * v) + w) * 12) + t)) (v := (sAlR (G 0 (3 + v)) (G 0 (3 + w)) t 12)) (by omega) (by decide) dX6_layAlike_135 (fun H locs hP hS => ?_)
                have hP : va_P D vwCl (mw b k I J (gset G 6 (nset (cput (G 6) (sAv (G 4 v) (G 0 (3 + v)) (G 0 (3 + w)) w) ((8 * v + w) * 12) t) ((((8 * v) + w) * 12) + t) (sAlR (G 0 (3 + v)) (G 0 (3 + w)) t 12)))) H := hP
                have hD := mw_D (I' := I) (J' := J) (G' := gset G 6 (nset (cput (G 6) (sAv (G 4 v) (G 0 (3 + v)) (G 0 (3 + w)) w) ((8 * v + w) * 12) t) ((((8 * v) + w) * 12) + t) (sAlR (G 0 (3 + v)) (G 0 (3 + w)) t 12))) hD
                have hP : va_P D vwCl (mw b k I J (gset G 6 (cput (G 6) (sAv (G 4 v) (G 0 (3 + v)) (G 0 (3 + w)) w) ((8 * v + w) * 12) (t + 1)))) H := by rw [← cput_s, sAv, if_pos (tb_t.mp c_126)]; exact hP
                have hD := mw_D (I' := I) (J' := J) (G' := gset G 6 (cput (G 6) (sAv (G 4 v) (G 0 (3 + v)) (G 0 (3 + w)) w) ((8 * v + w) * 12) (t + 1))) hD
                refine lv_iinc (v := nI (t + 1)) (lv' := [(3, .int (nI (t + 1))), (0, .ref (b 0)), (1, .int (nI v)), (2, .int (nI w)), (4, .int (nI (sAlR (G 0 (3 + v)) (G 0 (3 + w)) t 12))), (5, .int (nI 12))]) hz.1 hz.2.1 dX6_layAlike_136 hl (k := 3) rfl (nI_add _ 1) (by decide) rfl (fun ls hl => ?_)
                refine lv_goto (tgt := 2) hz.1 hz.2.1 dX6_layAlike_139 (by decide) ?_
                exact ih2 (t + 1) (by omega) (by omega) ls H locs hP hS (lv_sub hl [1, 2, 3, 0] rfl)
            · refine lv_iconst (v := nI 0) hz.1 hz.2.1 dX6_layAlike_21 (by decide) ?_
              refine lv_istore (lv' := [(6, .int (nI 0)), (0, .ref (b 0)), (1, .int (nI v)), (2, .int (nI w)), (3, .int (nI t)), (4, .int (nI (sAlR (G 0 (3 + v)) (G 0 (3 + w)) t u))), (5, .int (nI u))]) hz.1 hz.2.1 dX6_layAlike_22 hl (by decide) rfl (fun ls hl => ?_)
              have lp_24 : ∀ (fu : Nat) (q : Nat), (q ≤ 6) → 6 - q < fu → ∀ ls : Array Slot, lv_has ls 8 [(0, .ref (b 0)), (1, .int (nI v)), (2, .int (nI w)), (3, .int (nI t)), (4, .int (nI (sOr (sAlR (G 0 (3 + v)) (G 0 (3 + w)) t u) (fun z_ => if sNoteBy (G 0 (3 + v)) t z_ = sNoteBy (G 0 (3 + w)) u z_ then 2 ^ u else 0) q))), (5, .int (nI u)), (6, .int (nI q))] → W p_ l_ e_ ({ frames := 1, cells := 0, slots := 0, locals := 23 }) s_ m_ [.ref (b 0), .int (nI v), .int (nI w)].toArray bl_ me_ c_ H locs 0 0 (MQ bl_ (va_Qv (fun (u : Unit) => True) (fun (u : Unit) (t_ : State) => va_P D vwCl ((fun (_ : Unit) => mw b k I J (gset G 6 (cput (G 6) (sAv (G 4 v) (G 0 (3 + v)) (G 0 (3 + w)) w) ((8 * v + w) * 12) 12))) u) t_.heap) (wA (mw b k I J G))) [.ref (b 0), .int (nI v), .int (nI w)].toArray s_ 0 0 (wA (mw b k I J G))) (F0 m_ 24 ls []) := by
                intro fu
                induction fu with
                | zero => intro q hq hm; exact absurd hm (Nat.not_lt_zero _)
                | succ fu ih24 =>
                  intro q hq hm ls hl
                  refine lv_iload hz.1 hz.2.1 dX6_layAlike_24 (lv_at hl 6 rfl) ?_
                  refine lv_bipush (v := nI 6) hz.1 hz.2.1 dX6_layAlike_26 (by decide) ?_
                  refine jge (tgt := 94) hz dX6_layAlike_28 (by decide) (by omega) (by omega) (fun c_28 => ?_) (fun c_28 => ?_)
                  · obtain rfl : q = 6 := by omega
                    have hl : lv_has ls 8 [(0, .ref (b 0)), (1, .int (nI v)), (2, .int (nI w)), (3, .int (nI t)), (4, .int (nI (sAlR (G 0 (3 + v)) (G 0 (3 + w)) t (u + 1)))), (5, .int (nI u)), (6, .int (nI 6))] := hl
                    refine lv_iinc (v := nI (u + 1)) (lv' := [(5, .int (nI (u + 1))), (0, .ref (b 0)), (1, .int (nI v)), (2, .int (nI w)), (3, .int (nI t)), (4, .int (nI (sAlR (G 0 (3 + v)) (G 0 (3 + w)) t (u + 1)))), (6, .int (nI 6))]) hz.1 hz.2.1 dX6_layAlike_94 hl (k := 5) rfl (nI_add _ 1) (by decide) rfl (fun ls hl => ?_)
                    refine lv_goto (tgt := 14) hz.1 hz.2.1 dX6_layAlike_97 (by decide) ?_
                    exact ih14 (u + 1) (by omega) (by omega) ls (lv_sub hl [1, 2, 3, 4, 5, 0] rfl)
                  · have n1 := sNoteBy_lt (G 0 (3 + v)) t q
                    have n2 := sNoteBy_lt (G 0 (3 + w)) u q
                    refine lv_aload_n hz.1 hz.2.1 dX6_layAlike_31 rfl (lv_at hl 0 rfl) ?_
                    refine rg hz hinX6_layAlike hK hP 0 rfl rfl 0 (by decide) (List.mem_of_getElem? (i := 1) rfl) rfl (v := .ref (b 1)) rfl dX6_layAlike_32 ?_
                    refine lv_iconst (v := nI 3) hz.1 hz.2.1 dX6_layAlike_35 (by decide) ?_
                    refine lv_iload_n hz.1 hz.2.1 dX6_layAlike_36 rfl (lv_at hl 1 rfl) ?_
                    refine lv_iadd hz.1 hz.2.1 dX6_layAlike_37 ?_
                    refine toe (z := nI (3 + v)) (nI_add _ _) ?_
                    refine rald hz hK hP 1 0 rfl rfl (i := (3 + v)) (by omega) (by decide) (v := nI (G 0 (3 + v))) rfl dX6_layAlike_38 ?_
                    refine lv_iload_n hz.1 hz.2.1 dX6_layAlike_39 rfl (lv_at hl 3 rfl) ?_
                    refine lv_iload hz.1 hz.2.1 dX6_layAlike_40 (lv_at hl 6 rfl) ?_
                    refine rdS (As := [.int (nI (G 0 (3 + v))), .int (nI t), .int (nI q)]) (rest := []) hz (c6_noteBy l_ (G 0 (3 + v)) t q (by omega) (by omega) (by omega)) rfl (va_cwS 3 hz.2.2.2.2 gX6_layAlike_X6_noteBy rfl rfl rfl (by decide +kernel) ⟨Nat.le_of_ble_eq_true rfl, Nat.le_of_ble_eq_true rfl⟩) rfl hl.1 rfl (Nat.le_of_ble_eq_true rfl) dX6_layAlike_42 ⟨Nat.zero_le _, Nat.zero_le _⟩ ?_
                    refine lv_aload_n hz.1 hz.2.1 dX6_layAlike_45 rfl (lv_at hl 0 rfl) ?_
                    refine rg hz hinX6_layAlike hK hP 0 rfl rfl 0 (by decide) (List.mem_of_getElem? (i := 1) rfl) rfl (v := .ref (b 1)) rfl dX6_layAlike_46 ?_
                    refine lv_iconst (v := nI 3) hz.1 hz.2.1 dX6_layAlike_49 (by decide) ?_
                    refine lv_iload_n hz.1 hz.2.1 dX6_layAlike_50 rfl (lv_at hl 2 rfl) ?_
                    refine lv_iadd hz.1 hz.2.1 dX6_layAlike_51 ?_
                    refine toe (z := nI (3 + w)) (nI_add _ _) ?_
                    refine rald hz hK hP 1 0 rfl rfl (i := (3 + w)) (by omega) (by decide) (v := nI (G 0 (3 + w))) rfl dX6_layAlike_52 ?_
                    refine lv_iload hz.1 hz.2.1 dX6_layAlike_53 (lv_at hl 5 rfl) ?_
                    refine lv_iload hz.1 hz.2.1 dX6_layAlike_55 (lv_at hl 6 rfl) ?_
                    refine rdS (As := [.int (nI (G 0 (3 + w))), .int (nI u), .int (nI q)]) (rest := [.int (nI (sNoteBy (G 0 (3 + v)) t q))]) hz (c6_noteBy l_ (G 0 (3 + w)) u q (by omega) (by omega) (by omega)) rfl (va_cwS 3 hz.2.2.2.2 gX6_layAlike_X6_noteBy rfl rfl rfl (by decide +kernel) ⟨Nat.le_of_ble_eq_true rfl, Nat.le_of_ble_eq_true rfl⟩) rfl hl.1 rfl (Nat.le_of_ble_eq_true rfl) dX6_layAlike_57 ⟨Nat.zero_le _, Nat.zero_le _⟩ ?_
                    refine jne (tgt := 67) hz dX6_layAlike_60 (by decide) (by omega) (by omega) (fun c_60 => ?_) (fun c_60 => ?_)
                    · refine lv_iconst (v := nI 0) hz.1 hz.2.1 dX6_layAlike_67 (by decide) ?_
                      refine lv_istore (lv' := [(7, .int (nI 0)), (0, .ref (b 0)), (1, .int (nI v)), (2, .int (nI w)), (3, .int (nI t)), (4, .int (nI (sOr (sAlR (G 0 (3 + v)) (G 0 (3 + w)) t u) (fun z_ => if sNoteBy (G 0 (3 + v)) t z_ = sNoteBy (G 0 (3 + w)) u z_ then 2 ^ u else 0) q))), (5, .int (nI u)), (6, .int (nI q))]) hz.1 hz.2.1 dX6_layAlike_68 hl (by decide) rfl (fun ls hl => ?_)
                      refine lv_iload hz.1 hz.2.1 dX6_layAlike_70 (lv_at hl 5 rfl) ?_
                      refine lv_iload hz.1 hz.2.1 dX6_layAlike_72 (lv_at hl 0 rfl) ?_
                      refine jeq0 (tgt := 84) hz dX6_layAlike_74 (by decide) (by omega) (fun c_74 => ?_) (fun c_74 => ?_)
                      · refine lv_iconst (v := nI 0) hz.1 hz.2.1 dX6_layAlike_84 (by decide) ?_
                        refine lv_ior hz.1 hz.2.1 dX6_layAlike_85 ?_
                        refine toe (z := nI (sOr (sAlR (G 0 (3 + v)) (G 0 (3 + w)) t u) (fun z_ => if sNoteBy (G 0 (3 + v)) t z_ = sNoteBy (G 0 (3 + w)) u z_ then 2 ^ u else 0) (q + 1))) (by rw [fa_or]; simp [sOr, c_60]) ?_
                        refine lv_istore (lv' := [(4, .int (nI (sOr (sAlR (G 0 (3 + v)) (G 0 (3 + w)) t u) (fun z_ => if sNoteBy (G 0 (3 + v)) t z_ = sNoteBy (G 0 (3 + w)) u z_ then 2 ^ u else 0) (q + 1)))), (7, .int (nI 0)), (0, .ref (b 0)), (1, .int (nI v)), (2, .int (nI w)), (3, .int (nI t)), (5, .int (nI u)), (6, .int (nI q))]) hz.1 hz.2.1 dX6_layAlike_86 hl (by decide) rfl (fun ls hl => ?_)
                        refine lv_iinc (v := nI (q + 1)) (lv' := [(6, .int (nI (q + 1))), (4, .int (nI (sOr (sAlR (G 0 (3 + v)) (G 0 (3 + w)) t u) (fun z_ => if sNoteBy (G 0 (3 + v)) t z_ = sNoteBy (G 0 (3 + w)) u z_ then 2 ^ u else 0) (q + 1)))), (7, .int (nI 0)), (0, .ref (b 0)), (1, .int (nI v)), (2, .int (nI w)), (3, .int (nI t)), (5, .int (nI u))]) hz.1 hz.2.1 dX6_layAlike_88 hl (k := 7) rfl (nI_add _ 1) (by decide) rfl (fun ls hl => ?_)
                        refine lv_goto (tgt := 24) hz.1 hz.2.1 dX6_layAlike_91 (by decide) ?_
                        exact ih24 (q + 1) (by omega) (by omega) ls (lv_sub hl [3, 4, 5, 6, 1, 7, 0] rfl)
                      · exact absurd c_74 (by decide)
                    · refine lv_iconst (v := nI 1) hz.1 hz.2.1 dX6_layAlike_63 (by decide) ?_
                      refine lv_goto (tgt := 68) hz.1 hz.2.1 dX6_layAlike_64 (by decide) ?_
                      refine lv_istore (lv' := [(7, .int (nI 1)), (0, .ref (b 0)), (1, .int (nI v)), (2, .int (nI w)), (3, .int (nI t)), (4, .int (nI (sOr (sAlR (G 0 (3 + v)) (G 0 (3 + w)) t u) (fun z_ => if sNoteBy (G 0 (3 + v)) t z_ = sNoteBy (G 0 (3 + w)) u z_ then 2 ^ u else 0) q))), (5, .int (nI u)), (6, .int (nI q))]) hz.1 hz.2.1 dX6_layAlike_68 hl (by decide) rfl (fun ls hl => ?_)
                      refine lv_iload hz.1 hz.2.1 dX6_layAlike_70 (lv_at hl 5 rfl) ?_
                      refine lv_iload hz.1 hz.2.1 dX6_layAlike_72 (lv_at hl 0 rfl) ?_
                      refine jeq0 (tgt := 84) hz dX6_layAlike_74 (by decide) (by omega) (fun c_74 => ?_) (fun c_74 => ?_)
                      · exact absurd c_74 (by decide)
                      · refine lv_iconst (v := nI 1) hz.1 hz.2.1 dX6_layAlike_77 (by decide) ?_
                        refine lv_iload hz.1 hz.2.1 dX6_layAlike_78 (lv_at hl 6 rfl) ?_
                        refine lv_ishl hz.1 hz.2.1 dX6_layAlike_80 ?_
                        refine toe (z := nI (2 ^ u)) (nI_shl1 (by omega)) ?_
                        refine lv_goto (tgt := 85) hz.1 hz.2.1 dX6_layAlike_81 (by decide) ?_
                        refine lv_ior hz.1 hz.2.1 dX6_layAlike_85 ?_
                        refine toe (z := nI (sOr (sAlR (G 0 (3 + v)) (G 0 (3 + w)) t u) (fun z_ => if sNoteBy (G 0 (3 + v)) t z_ = sNoteBy (G 0 (3 + w)) u z_ then 2 ^ u else 0) (q + 1))) (by rw [fa_or]; simp [sOr, c_60]) ?_
                        refine lv_istore (lv' := [(4, .int (nI (sOr (sAlR (G 0 (3 + v)) (G 0 (3 + w)) t u) (fun z_ => if sNoteBy (G 0 (3 + v)) t z_ = sNoteBy (G 0 (3 + w)) u z_ then 2 ^ u else 0) (q + 1)))), (7, .int (nI 1)), (0, .ref (b 0)), (1, .int (nI v)), (2, .int (nI w)), (3, .int (nI t)), (5, .int (nI u)), (6, .int (nI q))]) hz.1 hz.2.1 dX6_layAlike_86 hl (by decide) rfl (fun ls hl => ?_)
                        refine lv_iinc (v := nI (q + 1)) (lv' := [(6, .int (nI (q + 1))), (4, .int (nI (sOr (sAlR (G 0 (3 + v)) (G 0 (3 + w)) t u) (fun z_ => if sNoteBy (G 0 (3 + v)) t z_ = sNoteBy (G 0 (3 + w)) u z_ then 2 ^ u else 0) (q + 1)))), (7, .int (nI 1)), (0, .ref (b 0)), (1, .int (nI v)), (2, .int (nI w)), (3, .int (nI t)), (5, .int (nI u))]) hz.1 hz.2.1 dX6_layAlike_88 hl (k := 7) rfl (nI_add _ 1) (by decide) rfl (fun ls hl => ?_)
                        refine lv_goto (tgt := 24) hz.1 hz.2.1 dX6_layAlike_91 (by decide) ?_
                        exact ih24 (q + 1) (by omega) (by omega) ls (lv_sub hl [3, 4, 5, 6, 1, 7, 0] rfl)
              exact lp_24 _ 0 (by omega) (Nat.lt_succ_self _) ls (lv_sub hl [1, 2, 3, 4, 5, 6, 0] rfl)
        exact lp_14 _ 0 (by omega) (Nat.lt_succ_self _) ls (lv_sub hl [2, 3, 4, 5, 1, 0] rfl)
  have hP : va_P D vwCl (mw b k I J (gset G 6 (cput (G 6) (sAv (G 4 v) (G 0 (3 + v)) (G 0 (3 + w)) w) ((8 * v + w) * 12) 0))) s_.heap := by rw [cput_0]; exact hP
  exact lp_2 _ 0 (by omega) (Nat.lt_succ_self _) ls _ _ hP hS (lv_sub hl [1, 2, 3, 0] rfl)

theorem hinX6_layOrder : ∀ w ∈ wsX60, w ∈ wsX6_layOrder := fun _ h => List.mem_cons_of_mem _ (List.mem_append_right _ h)
set_option maxHeartbeats 4000000 in
set_option maxRecDepth 100000 in
theorem c6_layOrder (l_ : Launch) (D : va_G) (k : Nat → ClassId) (b I J : Nat → Nat) (G : Nat → Nat → Nat) (S : Nat) (hf : Wf (G 0)) (hS : S < 256) : Met l_ yX6_layOrder wsX6_layOrder ({ frames := 1, cells := 0, slots := 0, locals := 20 }) (va_Pc [.ref (b 0), .int (nI S)] (wH YT D k (mw b k I J G))) (va_Qi (fun (r : Int32) (u : Unit) => r = nI (oB (sOh (G 0) S) (G 0 0 - 1) 2)) (fun (u : Unit) (t_ : State) => va_P D vwCl ((fun (_ : Unit) => mw b k I J (gset G 7 (oRw (sOh (G 0) S) (G 0 0 - 1) (G 7) 2))) u) t_.heap) (wA (mw b k I J G))) 0 0 (wA (mw b k I J G)) := by
  refine my_entry (cc := cX6_layOrder) (maxL := 5) (ret := some .int) (by decide) rfl (Nat.le_of_ble_eq_true rfl) ?_
  intro p_ e_ s_ m_ bl_ me_ c_ hz hr hlk hB ls hl
  obtain ⟨hP, hK, hD0, -⟩ := hB
  have hD := wA.self hD0
  have hS : va_S (wA (mw b k I J G)) s_.heap s_.heap [] := va_S.rf
  have hl : lv_has ls 5 [(0, .ref (b 0)), (1, .int (nI S))] := hl
  have f0 := hf.n2
  have f1 := hf.n9
  have f2 := hf.fr
  have f3 := hf.gd
  refine lv_iconst (v := nI 0) hz.1 hz.2.1 dX6_layOrder_0 (by decide) ?_
  refine lv_istore_n (lv' := [(2, .int (nI 0)), (0, .ref (b 0)), (1, .int (nI S))]) hz.1 hz.2.1 dX6_layOrder_1 rfl hl (by decide) rfl (fun ls hl => ?_)
  refine lv_iconst (v := nI 0) hz.1 hz.2.1 dX6_layOrder_2 (by decide) ?_
  refine lv_istore_n (lv' := [(3, .int (nI 0)), (2, .int (nI 0)), (0, .ref (b 0)), (1, .int (nI S))]) hz.1 hz.2.1 dX6_layOrder_3 rfl hl (by decide) rfl (fun ls hl => ?_)
  have lp_4 : ∀ (fu : Nat) (t : Nat), (t ≤ 2) → 2 - t < fu → ∀ ls : Array Slot, ∀ (H : Heap) (locs : List Loc), va_P D vwCl (mw b k I J (gset G 7 (oRw (sOh (G 0) S) (G 0 0 - 1) (G 7) t))) H → va_S (wA (mw b k I J G)) s_.heap H locs → lv_has ls 5 [(0, .ref (b 0)), (1, .int (nI S)), (2, .int (nI (oB (sOh (G 0) S) (G 0 0 - 1) t))), (3, .int (nI t))] → W p_ l_ e_ ({ frames := 1, cells := 0, slots := 0, locals := 20 }) s_ m_ [.ref (b 0), .int (nI S)].toArray bl_ me_ c_ H locs 0 0 (MQ bl_ (va_Qi (fun (r : Int32) (u : Unit) => r = nI (oB (sOh (G 0) S) (G 0 0 - 1) 2)) (fun (u : Unit) (t_ : State) => va_P D vwCl ((fun (_ : Unit) => mw b k I J (gset G 7 (oRw (sOh (G 0) S) (G 0 0 - 1) (G 7) 2))) u) t_.heap) (wA (mw b k I J G))) [.ref (b 0), .int (nI S)].toArray s_ 0 0 (wA (mw b k I J G))) (F0 m_ 4 ls []) := by
    intro fu
    induction fu with
    | zero => intro t ht hm; exact absurd hm (Nat.not_lt_zero _)
    | succ fu ih4 =>
      intro t ht hm ls H locs hP hS hl
      have hD := mw_D (I' := I) (J' := J) (G' := gset G 7 (oRw (sOh (G 0) S) (G 0 0 - 1) (G 7) t)) hD
      refine lv_iload_n hz.1 hz.2.1 dX6_layOrder_4 rfl (lv_at hl 3 rfl) ?_
      refine lv_iconst (v := nI 2) hz.1 hz.2.1 dX6_layOrder_5 (by decide) ?_
      refine jge (tgt := 84) hz dX6_layOrder_6 (by decide) (by omega) (by omega) (fun c_6 => ?_) (fun c_6 => ?_)
      · obtain rfl : t = 2 := by omega
        refine lv_iload_n hz.1 hz.2.1 dX6_layOrder_84 rfl (lv_at hl 2 rfl) ?_
        exact wr_iret hz hr hlk dX6_layOrder_85 hS (()) hP (rfl)
      · have b0 := oB_le (M := G 0) (S := S) (w := 0) c_6 (Nat.zero_le _)
        refine lv_iconst (v := nI 0) hz.1 hz.2.1 dX6_layOrder_9 (by decide) ?_
        refine lv_istore (lv' := [(4, .int (nI 0)), (0, .ref (b 0)), (1, .int (nI S)), (2, .int (nI (oB (sOh (G 0) S) (G 0 0 - 1) t))), (3, .int (nI t))]) hz.1 hz.2.1 dX6_layOrder_10 hl (by decide) rfl (fun ls hl => ?_)
        have lp_12 : ∀ (fu : Nat) (w : Nat), (w ≤ (G 0 0 - 1)) → (G 0 0 - 1) - w < fu → ∀ ls : Array Slot, ∀ (H : Heap) (locs : List Loc), va_P D vwCl (mw b k I J (gset G 7 (kOr (sOh (G 0) S t) (oB (sOh (G 0) S) (G 0 0 - 1) t) (oRw (sOh (G 0) S) (G 0 0 - 1) (G 7) t) w))) H → va_S (wA (mw b k I J G)) s_.heap H locs → lv_has ls 5 [(0, .ref (b 0)), (1, .int (nI S)), (2, .int (nI (oB (sOh (G 0) S) (G 0 0 - 1) t + fb_ct (sOh (G 0) S t) w))), (3, .int (nI t)), (4, .int (nI w))] → W p_ l_ e_ ({ frames := 1, cells := 0, slots := 0, locals := 20 }) s_ m_ [.ref (b 0), .int (nI S)].toArray bl_ me_ c_ H locs 0 0 (MQ bl_ (va_Qi (fun (r : Int32) (u : Unit) => r = nI (oB (sOh (G 0) S) (G 0 0 - 1) 2)) (fun (u : Unit) (t_ : State) => va_P D vwCl ((fun (_ : Unit) => mw b k I J (gset G 7 (oRw (sOh (G 0) S) (G 0 0 - 1) (G 7) 2))) u) t_.heap) (wA (mw b k I J G))) [.ref (b 0), .int (nI S)].toArray s_ 0 0 (wA (mw b k I J G))) (F0 m_ 12 ls []) := by
          intro fu
          induction fu with
          | zero => intro w hw hm; exact absurd hm (Nat.not_lt_zero _)
          | succ fu ih12 =>
            intro w hw hm ls H locs hP hS hl
            have hD := mw_D (I' := I) (J' := J) (G' := gset G 7 (kOr (sOh (G 0) S t) (oB (sOh (G 0) S) (G 0 0 - 1) t) (oRw (sOh (G 0) S) (G 0 0 - 1) (G 7) t) w)) hD
            refine lv_iload hz.1 hz.2.1 dX6_layOrder_12 (lv_at hl 4 rfl) ?_
            refine lv_aload_n hz.1 hz.2.1 dX6_layOrder_14 rfl (lv_at hl 0 rfl) ?_
            refine rdV (A := wA (mw b k I J G)) (As := []) (rest := [.int (nI w)]) hz okYT (c6_wires l_ D k b I J (gset G 7 (kOr (sOh (G 0) S t) (oB (sOh (G 0) S) (G 0 0 - 1) t) (oRw (sOh (G 0) S) (G 0 0 - 1) (G 7) t) w))  (show 1 ≤ G 0 0 by omega)) (cwV 0 hz.2.2.2.2 gX6_layOrder_X6_wires rfl rfl rfl (by decide +kernel) ⟨Nat.le_of_ble_eq_true rfl, Nat.le_of_ble_eq_true rfl⟩) hK trivial hP hD hS 0 6 rfl rfl rfl rfl hl.1 rfl (Nat.le_of_ble_eq_true rfl) dX6_layOrder_15 ⟨Nat.zero_le _, Nat.zero_le _⟩ ?_
            refine toe (z := nI ((G 0) 0 - 1)) rfl ?_
            refine jge (tgt := 78) hz dX6_layOrder_18 (by decide) (by omega) (by omega) (fun c_18 => ?_) (fun c_18 => ?_)
            · obtain rfl : w = G 0 0 - 1 := by omega
              have hl : lv_has ls 5 [(0, .ref (b 0)), (1, .int (nI S)), (2, .int (nI (oB (sOh (G 0) S) (G 0 0 - 1) (t + 1)))), (3, .int (nI t)), (4, .int (nI (G 0 0 - 1)))] := hl
              refine lv_iinc (v := nI (t + 1)) (lv' := [(3, .int (nI (t + 1))), (0, .ref (b 0)), (1, .int (nI S)), (2, .int (nI (oB (sOh (G 0) S) (G 0 0 - 1) (t + 1)))), (4, .int (nI (G 0 0 - 1)))]) hz.1 hz.2.1 dX6_layOrder_78 hl (k := 3) rfl (nI_add _ 1) (by decide) rfl (fun ls hl => ?_)
              refine lv_goto (tgt := 4) hz.1 hz.2.1 dX6_layOrder_81 (by decide) ?_
              have hP : va_P D vwCl (mw b k I J (gset G 7 (oRw (sOh (G 0) S) (G 0 0 - 1) (G 7) (t + 1)))) H := hP
              exact ih4 (t + 1) (by omega) (by omega) ls H locs hP hS (lv_sub hl [1, 2, 3, 0] rfl)
            · have k1 := hf.kd (w := w) (by omega)
              refine lv_iload_n hz.1 hz.2.1 dX6_layOrder_21 rfl (lv_at hl 1 rfl) ?_
              refine lv_iload hz.1 hz.2.1 dX6_layOrder_22 (lv_at hl 4 rfl) ?_
              refine lv_ishr hz.1 hz.2.1 dX6_layOrder_24 ?_
              refine toe (z := nI (S / 2 ^ w)) (nI_shr (by omega) (by omega)) ?_
              refine lv_iconst (v := nI 1) hz.1 hz.2.1 dX6_layOrder_25 (by decide) ?_
              refine lv_iand hz.1 hz.2.1 dX6_layOrder_26 ?_
              refine toe (z := nI ((S / 2 ^ w) % 2)) (nI_and1 _) ?_
              refine lv_iconst (v := nI 1) hz.1 hz.2.1 dX6_layOrder_27 (by decide) ?_
              refine jne (tgt := 72) hz dX6_layOrder_28 (by decide) (by omega) (by omega) (fun c_28 => ?_) (fun c_28 => ?_)
              · have hh : sOh (G 0) S t w = false := by unfold sOh; simp [tb_f.mp c_28]
                rw [← fb_ct0 hh] at hl
                refine lv_iinc (v := nI (w + 1)) (lv' := [(4, .int (nI (w + 1))), (0, .ref (b 0)), (1, .int (nI S)), (2, .int (nI (oB (sOh (G 0) S) (G 0 0 - 1) t + fb_ct (sOh (G 0) S t) (w + 1)))), (3, .int (nI t))]) hz.1 hz.2.1 dX6_layOrder_72 hl (k := 4) rfl (nI_add _ 1) (by decide) rfl (fun ls hl => ?_)
                refine lv_goto (tgt := 12) hz.1 hz.2.1 dX6_layOrder_75 (by decide) ?_
                have hP : va_P D vwCl (mw b k I J (gset G 7 (kOr (sOh (G 0) S t) (oB (sOh (G 0) S) (G 0 0 - 1) t) (oRw (sOh (G 0) S) (G 0 0 - 1) (G 7) t) (w + 1)))) H := by rw [kOr_0 hh]; exact hP
                exact ih12 (w + 1) (by omega) (by omega) ls H locs hP hS (lv_sub hl [1, 2, 3, 4, 0] rfl)
              · refine lv_aload_n hz.1 hz.2.1 dX6_layOrder_31 rfl (lv_at hl 0 rfl) ?_
                refine rg hz hinX6_layOrder hK hP 0 rfl rfl 0 (by decide) (List.mem_of_getElem? (i := 1) rfl) rfl (v := .ref (b 1)) rfl dX6_layOrder_32 ?_
                refine lv_iconst (v := nI 3) hz.1 hz.2.1 dX6_layOrder_35 (by decide) ?_
                refine lv_iload hz.1 hz.2.1 dX6_layOrder_36 (lv_at hl 4 rfl) ?_
                refine lv_iadd hz.1 hz.2.1 dX6_layOrder_38 ?_
                refine toe (z := nI (3 + w)) (nI_add _ _) ?_
                refine rald hz hK hP 1 0 rfl rfl (i := (3 + w)) (by omega) (by decide) (v := nI (G 0 (3 + w))) rfl dX6_layOrder_39 ?_
                refine lv_iconst (v := nI 3) hz.1 hz.2.1 dX6_layOrder_40 (by decide) ?_
                refine jne (tgt := 48) hz dX6_layOrder_41 (by decide) (by omega) (by omega) (fun c_41 => ?_) (fun c_41 => ?_)
                · refine lv_iconst (v := nI 0) hz.1 hz.2.1 dX6_layOrder_48 (by decide) ?_
                  refine lv_iload_n hz.1 hz.2.1 dX6_layOrder_49 rfl (lv_at hl 3 rfl) ?_
                  refine jne0 (tgt := 57) hz dX6_layOrder_50 (by decide) (by omega) (fun c_50 => ?_) (fun c_50 => ?_)
                  · refine lv_iconst (v := nI 0) hz.1 hz.2.1 dX6_layOrder_57 (by decide) ?_
                    refine jne (tgt := 72) hz dX6_layOrder_58 (by decide) (by omega) (by omega) (fun c_58 => ?_) (fun c_58 => ?_)
                    · exact absurd rfl c_58
                    · have hh : sOh (G 0) S t w = true := by unfold sOh; simp [tb_t.mp c_28, c_41, c_50]
                      have b1 := oB_lt (by omega) c_18 hh
                      refine lv_aload_n hz.1 hz.2.1 dX6_layOrder_61 rfl (lv_at hl 0 rfl) ?_
                      refine rg hz hinX6_layOrder hK hP 0 rfl rfl 9 (by decide) (List.mem_of_getElem? (i := 2) rfl) rfl (v := .ref (b 8)) rfl dX6_layOrder_62 ?_
                      refine lv_iload_n hz.1 hz.2.1 dX6_layOrder_65 rfl (lv_at hl 2 rfl) ?_
                      refine lv_iload hz.1 hz.2.1 dX6_layOrder_66 (lv_at hl 4 rfl) ?_
                      refine rast hz hK hP hD hS 8 0 rfl rfl (i := (oB (sOh (G 0) S) (G 0 0 - 1) t + fb_ct (sOh (G 0) S t) w)) (v := w) (by omega) (by decide) dX6_layOrder_68 (fun H locs hP hS => ?_)
                      have hP : va_P D vwCl (mw b k I J (gset G 7 (nset (kOr (sOh (G 0) S t) (oB (sOh (G 0) S) (G 0 0 - 1) t) (oRw (sOh (G 0) S) (G 0 0 - 1) (G 7) t) w) (oB (sOh (G 0) S) (G 0 0 - 1) t + fb_ct (sOh (G 0) S t) w) w))) H := hP
                      have hD := mw_D (I' := I) (J' := J) (G' := gset G 7 (nset (kOr (sOh (G 0) S t) (oB (sOh (G 0) S) (G 0 0 - 1) t) (oRw (sOh (G 0) S) (G 0 0 - 1) (G 7) t) w) (oB (sOh (G 0) S) (G 0 0 - 1) t + fb_ct (sOh (G 0) S t) w) w)) hD
                      have hP : va_P D vwCl (mw b k I J (gset G 7 (kOr (sOh (G 0) S t) (oB (sOh (G 0) S) (G 0 0 - 1) t) (oRw (sOh (G 0) S) (G 0 0 - 1) (G 7) t) (w + 1)))) H := by rw [← kOr_1 hh]; exact hP
                      have hD := mw_D (I' := I) (J' := J) (G' := gset G 7 (kOr (sOh (G 0) S t) (oB (sOh (G 0) S) (G 0 0 - 1) t) (oRw (sOh (G 0) S) (G 0 0 - 1) (G 7) t) (w + 1))) hD
                      refine lv_iinc (v := nI (oB (sOh (G 0) S) (G 0 0 - 1) t + fb_ct (sOh (G 0) S t) (w + 1))) (lv' := [(2, .int (nI (oB (sOh (G 0) S) (G 0 0 - 1) t + fb_ct (sOh (G 0) S t) (w + 1)))), (0, .ref (b 0)), (1, .int (nI S)), (3, .int (nI t)), (4, .int (nI w))]) hz.1 hz.2.1 dX6_layOrder_69 hl (k := 2) rfl (by rw [fb_ct1 hh, ← Nat.add_assoc]; exact nI_add _ 1) (by decide) rfl (fun ls hl => ?_)
                      refine lv_iinc (v := nI (w + 1)) (lv' := [(4, .int (nI (w + 1))), (2, .int (nI (oB (sOh (G 0) S) (G 0 0 - 1) t + fb_ct (sOh (G 0) S t) (w + 1)))), (0, .ref (b 0)), (1, .int (nI S)), (3, .int (nI t))]) hz.1 hz.2.1 dX6_layOrder_72 hl (k := 4) rfl (nI_add _ 1) (by decide) rfl (fun ls hl => ?_)
                      refine lv_goto (tgt := 12) hz.1 hz.2.1 dX6_layOrder_75 (by decide) ?_
                      exact ih12 (w + 1) (by omega) (by omega) ls H locs hP hS (lv_sub hl [2, 3, 1, 4, 0] rfl)
                  · refine lv_iconst (v := nI 1) hz.1 hz.2.1 dX6_layOrder_53 (by decide) ?_
                    refine lv_goto (tgt := 58) hz.1 hz.2.1 dX6_layOrder_54 (by decide) ?_
                    refine jne (tgt := 72) hz dX6_layOrder_58 (by decide) (by omega) (by omega) (fun c_58 => ?_) (fun c_58 => ?_)
                    · have hh : sOh (G 0) S t w = false := by unfold sOh; simp [tb_t.mp c_28, c_41, c_50]
                      rw [← fb_ct0 hh] at hl
                      refine lv_iinc (v := nI (w + 1)) (lv' := [(4, .int (nI (w + 1))), (0, .ref (b 0)), (1, .int (nI S)), (2, .int (nI (oB (sOh (G 0) S) (G 0 0 - 1) t + fb_ct (sOh (G 0) S t) (w + 1)))), (3, .int (nI t))]) hz.1 hz.2.1 dX6_layOrder_72 hl (k := 4) rfl (nI_add _ 1) (by decide) rfl (fun ls hl => ?_)
                      refine lv_goto (tgt := 12) hz.1 hz.2.1 dX6_layOrder_75 (by decide) ?_
                      have hP : va_P D vwCl (mw b k I J (gset G 7 (kOr (sOh (G 0) S t) (oB (sOh (G 0) S) (G 0 0 - 1) t) (oRw (sOh (G 0) S) (G 0 0 - 1) (G 7) t) (w + 1)))) H := by rw [kOr_0 hh]; exact hP
                      exact ih12 (w + 1) (by omega) (by omega) ls H locs hP hS (lv_sub hl [1, 2, 3, 4, 0] rfl)
                    · exact absurd c_58 (by decide)
                · refine lv_iconst (v := nI 1) hz.1 hz.2.1 dX6_layOrder_44 (by decide) ?_
                  refine lv_goto (tgt := 49) hz.1 hz.2.1 dX6_layOrder_45 (by decide) ?_
                  refine lv_iload_n hz.1 hz.2.1 dX6_layOrder_49 rfl (lv_at hl 3 rfl) ?_
                  refine jne0 (tgt := 57) hz dX6_layOrder_50 (by decide) (by omega) (fun c_50 => ?_) (fun c_50 => ?_)
                  · refine lv_iconst (v := nI 0) hz.1 hz.2.1 dX6_layOrder_57 (by decide) ?_
                    refine jne (tgt := 72) hz dX6_layOrder_58 (by decide) (by omega) (by omega) (fun c_58 => ?_) (fun c_58 => ?_)
                    · have hh : sOh (G 0) S t w = false := by unfold sOh; simp [tb_t.mp c_28, c_41, c_50]
                      rw [← fb_ct0 hh] at hl
                      refine lv_iinc (v := nI (w + 1)) (lv' := [(4, .int (nI (w + 1))), (0, .ref (b 0)), (1, .int (nI S)), (2, .int (nI (oB (sOh (G 0) S) (G 0 0 - 1) t + fb_ct (sOh (G 0) S t) (w + 1)))), (3, .int (nI t))]) hz.1 hz.2.1 dX6_layOrder_72 hl (k := 4) rfl (nI_add _ 1) (by decide) rfl (fun ls hl => ?_)
                      refine lv_goto (tgt := 12) hz.1 hz.2.1 dX6_layOrder_75 (by decide) ?_
                      have hP : va_P D vwCl (mw b k I J (gset G 7 (kOr (sOh (G 0) S t) (oB (sOh (G 0) S) (G 0 0 - 1) t) (oRw (sOh (G 0) S) (G 0 0 - 1) (G 7) t) (w + 1)))) H := by rw [kOr_0 hh]; exact hP
                      exact ih12 (w + 1) (by omega) (by omega) ls H locs hP hS (lv_sub hl [1, 2, 3, 4, 0] rfl)
                    · exact absurd c_58 (by decide)
                  · refine lv_iconst (v := nI 1) hz.1 hz.2.1 dX6_layOrder_53 (by decide) ?_
                    refine lv_goto (tgt := 58) hz.1 hz.2.1 dX6_layOrder_54 (by decide) ?_
                    refine jne (tgt := 72) hz dX6_layOrder_58 (by decide) (by omega) (by omega) (fun c_58 => ?_) (fun c_58 => ?_)
                    · exact absurd rfl c_58
                    · have hh : sOh (G 0) S t w = true := by unfold sOh; simp [tb_t.mp c_28, c_41, c_50]
                      have b1 := oB_lt (by omega) c_18 hh
                      refine lv_aload_n hz.1 hz.2.1 dX6_layOrder_61 rfl (lv_at hl 0 rfl) ?_
                      refine rg hz hinX6_layOrder hK hP 0 rfl rfl 9 (by decide) (List.mem_of_getElem? (i := 2) rfl) rfl (v := .ref (b 8)) rfl dX6_layOrder_62 ?_
                      refine lv_iload_n hz.1 hz.2.1 dX6_layOrder_65 rfl (lv_at hl 2 rfl) ?_
                      refine lv_iload hz.1 hz.2.1 dX6_layOrder_66 (lv_at hl 4 rfl) ?_
                      refine rast hz hK hP hD hS 8 0 rfl rfl (i := (oB (sOh (G 0) S) (G 0 0 - 1) t + fb_ct (sOh (G 0) S t) w)) (v := w) (by omega) (by decide) dX6_layOrder_68 (fun H locs hP hS => ?_)
                      have hP : va_P D vwCl (mw b k I J (gset G 7 (nset (kOr (sOh (G 0) S t) (oB (sOh (G 0) S) (G 0 0 - 1) t) (oRw (sOh (G 0) S) (G 0 0 - 1) (G 7) t) w) (oB (sOh (G 0) S) (G 0 0 - 1) t + fb_ct (sOh (G 0) S t) w) w))) H := hP
                      have hD := mw_D (I' := I) (J' := J) (G' := gset G 7 (nset (kOr (sOh (G 0) S t) (oB (sOh (G 0) S) (G 0 0 - 1) t) (oRw (sOh (G 0) S) (G 0 0 - 1) (G 7) t) w) (oB (sOh (G 0) S) (G 0 0 - 1) t + fb_ct (sOh (G 0) S t) w) w)) hD
                      have hP : va_P D vwCl (mw b k I J (gset G 7 (kOr (sOh (G 0) S t) (oB (sOh (G 0) S) (G 0 0 - 1) t) (oRw (sOh (G 0) S) (G 0 0 - 1) (G 7) t) (w + 1)))) H := by rw [← kOr_1 hh]; exact hP
                      have hD := mw_D (I' := I) (J' := J) (G' := gset G 7 (kOr (sOh (G 0) S t) (oB (sOh (G 0) S) (G 0 0 - 1) t) (oRw (sOh (G 0) S) (G 0 0 - 1) (G 7) t) (w + 1))) hD
                      refine lv_iinc (v := nI (oB (sOh (G 0) S) (G 0 0 - 1) t + fb_ct (sOh (G 0) S t) (w + 1))) (lv' := [(2, .int (nI (oB (sOh (G 0) S) (G 0 0 - 1) t + fb_ct (sOh (G 0) S t) (w + 1)))), (0, .ref (b 0)), (1, .int (nI S)), (3, .int (nI t)), (4, .int (nI w))]) hz.1 hz.2.1 dX6_layOrder_69 hl (k := 2) rfl (by rw [fb_ct1 hh, ← Nat.add_assoc]; exact nI_add _ 1) (by decide) rfl (fun ls hl => ?_)
                      refine lv_iinc (v := nI (w + 1)) (lv' := [(4, .int (nI (w + 1))), (2, .int (nI (oB (sOh (G 0) S) (G 0 0 - 1) t + fb_ct (sOh (G 0) S t) (w + 1)))), (0, .ref (b 0)), (1, .int (nI S)), (3, .int (nI t))]) hz.1 hz.2.1 dX6_layOrder_72 hl (k := 4) rfl (nI_add _ 1) (by decide) rfl (fun ls hl => ?_)
                      refine lv_goto (tgt := 12) hz.1 hz.2.1 dX6_layOrder_75 (by decide) ?_
                      exact ih12 (w + 1) (by omega) (by omega) ls H locs hP hS (lv_sub hl [2, 3, 1, 4, 0] rfl)
        have hP : va_P D vwCl (mw b k I J (gset G 7 (kOr (sOh (G 0) S t) (oB (sOh (G 0) S) (G 0 0 - 1) t) (oRw (sOh (G 0) S) (G 0 0 - 1) (G 7) t) 0))) H := hP
        exact lp_12 _ 0 (by omega) (Nat.lt_succ_self _) ls _ _ hP hS (lv_sub hl [1, 2, 3, 4, 0] rfl)
  have hP : va_P D vwCl (mw b k I J (gset G 7 (oRw (sOh (G 0) S) (G 0 0 - 1) (G 7) 0))) s_.heap := hP
  exact lp_4 _ 0 (by omega) (Nat.lt_succ_self _) ls _ _ hP hS (lv_sub hl [2, 3, 1, 0] rfl)

theorem hinX6_canBe : ∀ w ∈ wsX60, w ∈ wsX6_canBe := fun _ h => List.mem_cons_of_mem _ (List.mem_append_right _ h)
set_option maxHeartbeats 4000000 in
set_option maxRecDepth 100000 in
theorem c6_canBe (l_ : Launch) (D : va_G) (k : Nat → ClassId) (b I J : Nat → Nat) (G : Nat → Nat → Nat) (S : Nat) (hf : Wf (G 0)) (hS : S < 256) (hA : sAkG (G 0) (G 6)) : Met l_ yX6_canBe wsX6_canBe ({ frames := 2, cells := 0, slots := 0, locals := 44 }) (va_Pc [.ref (b 0), .int (nI S)] (wH YT D k (mw b k I J G))) (va_Qi (fun (r : Int32) (u : (Nat → Nat) × (Nat → Nat) × (Nat → Nat)) => r = bI (sCanB (G 0) S)) (fun (u : (Nat → Nat) × (Nat → Nat) × (Nat → Nat)) (t_ : State) => va_P D vwCl ((fun (u : (Nat → Nat) × (Nat → Nat) × (Nat → Nat)) => mw b k I J (gset (gset (gset G 5 u.1) 7 u.2.1) 8 u.2.2)) u) t_.heap) (wA (mw b k I J G))) 0 0 (wA (mw b k I J G)) := by
  refine my_entry (cc := cX6_canBe) (maxL := 6) (ret := some .boolean) (by decide) rfl (Nat.le_of_ble_eq_true rfl) ?_
  intro p_ e_ s_ m_ bl_ me_ c_ hz hr hlk hB ls hl
  obtain ⟨hP, hK, hD0, -⟩ := hB
  have hD := wA.self hD0
  have hS : va_S (wA (mw b k I J G)) s_.heap s_.heap [] := va_S.rf
  have hl : lv_has ls 6 [(0, .ref (b 0)), (1, .int (nI S))] := hl
  have f0 := hf.n2
  have f1 := hf.n9
  have f2 := hf.fr
  have f3 := hf.gd
  have f8 : 0 < 2 ^ (G 0 0 - 1) := Nat.two_pow_pos _
  have f9 := pow8 hf
  have t0 : sT0 (G 0 0 - 1) S < 256 := sT0_lt (by omega)
  have tnv : ∀ v, v < (G 0 0 - 1) → (ccpy (G 5) (fun z_ => G 0 (11 + z_)) (G 0 0 - 1)) v = G 0 (11 + v) := fun v hv => if_pos hv
  have tnw : ∀ v, v < (G 0 0 - 1) → (ccpy (G 5) (fun z_ => G 0 (11 + z_)) (G 0 0 - 1)) v < 12 := fun v hv => by rw [tnv v hv]; have := hf.tn (w := v) (by omega); omega
  refine lv_iconst (v := nI 1) hz.1 hz.2.1 dX6_canBe_0 (by decide) ?_
  refine lv_aload_n hz.1 hz.2.1 dX6_canBe_1 rfl (lv_at hl 0 rfl) ?_
  refine rdV (A := wA (mw b k I J G)) (As := []) (rest := [.int (nI 1)]) hz okYT (c6_wires l_ D k b I J G  (show 1 ≤ G 0 0 by omega)) (cwV 0 hz.2.2.2.2 gX6_canBe_X6_wires rfl rfl rfl (by decide +kernel) ⟨Nat.le_of_ble_eq_true rfl, Nat.le_of_ble_eq_true rfl⟩) hK trivial hP hD hS 0 6 rfl rfl rfl rfl hl.1 rfl (Nat.le_of_ble_eq_true rfl) dX6_canBe_2 ⟨Nat.zero_le _, Nat.zero_le _⟩ ?_
  refine lv_ishl hz.1 hz.2.1 dX6_canBe_5 ?_
  refine toe (z := nI (2 ^ ((G 0) 0 - 1))) (nI_shl1 (by omega)) ?_
  refine lv_iconst (v := nI 1) hz.1 hz.2.1 dX6_canBe_6 (by decide) ?_
  refine lv_isub hz.1 hz.2.1 dX6_canBe_7 ?_
  refine toe (z := nI ((2 ^ ((G 0) 0 - 1)) - 1)) (pk_sub (by omega)) ?_
  refine lv_iload_n hz.1 hz.2.1 dX6_canBe_8 rfl (lv_at hl 1 rfl) ?_
  refine lv_iconst (v := (-1)) hz.1 hz.2.1 dX6_canBe_9 (by decide) ?_
  refine lv_ixor hz.1 hz.2.1 dX6_canBe_10 ?_
  refine lv_iand hz.1 hz.2.1 dX6_canBe_11 ?_
  refine toe (z := nI (sT0 (G 0 0 - 1) S)) (nI_andnot _ _) ?_
  refine lv_istore_n (lv' := [(2, .int (nI (sT0 (G 0 0 - 1) S))), (0, .ref (b 0)), (1, .int (nI S))]) hz.1 hz.2.1 dX6_canBe_12 rfl hl (by decide) rfl (fun ls hl => ?_)
  refine lv_iconst (v := nI 0) hz.1 hz.2.1 dX6_canBe_13 (by decide) ?_
  refine lv_istore_n (lv' := [(3, .int (nI 0)), (2, .int (nI (sT0 (G 0 0 - 1) S))), (0, .ref (b 0)), (1, .int (nI S))]) hz.1 hz.2.1 dX6_canBe_14 rfl hl (by decide) rfl (fun ls hl => ?_)
  have lp_15 : ∀ (fu : Nat) (w : Nat), (w ≤ (G 0 0 - 1)) → (G 0 0 - 1) - w < fu → ∀ ls : Array Slot, ∀ (H : Heap) (locs : List Loc), va_P D vwCl (mw b k I J (gset G 5 (ccpy (G 5) (fun z_ => G 0 (11 + z_)) w))) H → va_S (wA (mw b k I J G)) s_.heap H locs → lv_has ls 6 [(0, .ref (b 0)), (1, .int (nI S)), (2, .int (nI (sT0 (G 0 0 - 1) S))), (3, .int (nI w))] → W p_ l_ e_ ({ frames := 2, cells := 0, slots := 0, locals := 44 }) s_ m_ [.ref (b 0), .int (nI S)].toArray bl_ me_ c_ H locs 0 0 (MQ bl_ (va_Qi (fun (r : Int32) (u : (Nat → Nat) × (Nat → Nat) × (Nat → Nat)) => r = bI (sCanB (G 0) S)) (fun (u : (Nat → Nat) × (Nat → Nat) × (Nat → Nat)) (t_ : State) => va_P D vwCl ((fun (u : (Nat → Nat) × (Nat → Nat) × (Nat → Nat)) => mw b k I J (gset (gset (gset G 5 u.1) 7 u.2.1) 8 u.2.2)) u) t_.heap) (wA (mw b k I J G))) [.ref (b 0), .int (nI S)].toArray s_ 0 0 (wA (mw b k I J G))) (F0 m_ 15 ls []) := by
    intro fu
    induction fu with
    | zero => intro w hw hm; exact absurd hm (Nat.not_lt_zero _)
    | succ fu ih15 =>
      intro w hw hm ls H locs hP hS hl
      have hD := mw_D (I' := I) (J' := J) (G' := gset G 5 (ccpy (G 5) (fun z_ => G 0 (11 + z_)) w)) hD
      refine lv_iload_n hz.1 hz.2.1 dX6_canBe_15 rfl (lv_at hl 3 rfl) ?_
      refine lv_aload_n hz.1 hz.2.1 dX6_canBe_16 rfl (lv_at hl 0 rfl) ?_
      refine rdV (A := wA (mw b k I J G)) (As := []) (rest := [.int (nI w)]) hz okYT (c6_wires l_ D k b I J (gset G 5 (ccpy (G 5) (fun z_ => G 0 (11 + z_)) w))  (show 1 ≤ G 0 0 by omega)) (cwV 0 hz.2.2.2.2 gX6_canBe_X6_wires rfl rfl rfl (by decide +kernel) ⟨Nat.le_of_ble_eq_true rfl, Nat.le_of_ble_eq_true rfl⟩) hK trivial hP hD hS 0 6 rfl rfl rfl rfl hl.1 rfl (Nat.le_of_ble_eq_true rfl) dX6_canBe_17 ⟨Nat.zero_le _, Nat.zero_le _⟩ ?_
      refine toe (z := nI ((G 0) 0 - 1)) rfl ?_
      refine jge (tgt := 44) hz dX6_canBe_20 (by decide) (by omega) (by omega) (fun c_20 => ?_) (fun c_20 => ?_)
      · obtain rfl : w = G 0 0 - 1 := by omega
        refine lv_iconst (v := nI 0) hz.1 hz.2.1 dX6_canBe_44 (by decide) ?_
        refine lv_istore_n (lv' := [(3, .int (nI 0)), (0, .ref (b 0)), (1, .int (nI S)), (2, .int (nI (sT0 (G 0 0 - 1) S)))]) hz.1 hz.2.1 dX6_canBe_45 rfl hl (by decide) rfl (fun ls hl => ?_)
        have lp_46 : ∀ (fu : Nat) (w : Nat), (w ≤ (G 0 0 - 1)) → (∀ j, j < w → (sT0 (G 0 0 - 1) S).testBit j = true → (sMayF (G 0) (ccpy (G 5) (fun z_ => G 0 (11 + z_)) (G 0 0 - 1)) (sT0 (G 0 0 - 1) S) j (G 0 0 - 1)).testBit (G 0 (11 + j)) = true) → (G 0 0 - 1) - w < fu → ∀ ls : Array Slot, lv_has ls 6 [(0, .ref (b 0)), (1, .int (nI S)), (2, .int (nI (sT0 (G 0 0 - 1) S))), (3, .int (nI w))] → W p_ l_ e_ ({ frames := 2, cells := 0, slots := 0, locals := 44 }) s_ m_ [.ref (b 0), .int (nI S)].toArray bl_ me_ c_ H locs 0 0 (MQ bl_ (va_Qi (fun (r : Int32) (u : (Nat → Nat) × (Nat → Nat) × (Nat → Nat)) => r = bI (sCanB (G 0) S)) (fun (u : (Nat → Nat) × (Nat → Nat) × (Nat → Nat)) (t_ : State) => va_P D vwCl ((fun (u : (Nat → Nat) × (Nat → Nat) × (Nat → Nat)) => mw b k I J (gset (gset (gset G 5 u.1) 7 u.2.1) 8 u.2.2)) u) t_.heap) (wA (mw b k I J G))) [.ref (b 0), .int (nI S)].toArray s_ 0 0 (wA (mw b k I J G))) (F0 m_ 46 ls []) := by
          intro fu
          induction fu with
          | zero => intro w hw hall hm; exact absurd hm (Nat.not_lt_zero _)
          | succ fu ih46 =>
            intro w hw hall hm ls hl
            refine lv_iload_n hz.1 hz.2.1 dX6_canBe_46 rfl (lv_at hl 3 rfl) ?_
            refine lv_aload_n hz.1 hz.2.1 dX6_canBe_47 rfl (lv_at hl 0 rfl) ?_
            refine rdV (A := wA (mw b k I J G)) (As := []) (rest := [.int (nI w)]) hz okYT (c6_wires l_ D k b I J (gset G 5 (ccpy (G 5) (fun z_ => G 0 (11 + z_)) (G 0 0 - 1)))  (show 1 ≤ G 0 0 by omega)) (cwV 0 hz.2.2.2.2 gX6_canBe_X6_wires rfl rfl rfl (by decide +kernel) ⟨Nat.le_of_ble_eq_true rfl, Nat.le_of_ble_eq_true rfl⟩) hK trivial hP hD hS 0 6 rfl rfl rfl rfl hl.1 rfl (Nat.le_of_ble_eq_true rfl) dX6_canBe_48 ⟨Nat.zero_le _, Nat.zero_le _⟩ ?_
            refine toe (z := nI ((G 0) 0 - 1)) rfl ?_
            refine jge (tgt := 89) hz dX6_canBe_51 (by decide) (by omega) (by omega) (fun c_51 => ?_) (fun c_51 => ?_)
            · obtain rfl : w = G 0 0 - 1 := by omega
              refine lv_aload_n hz.1 hz.2.1 dX6_canBe_89 rfl (lv_at hl 0 rfl) ?_
              refine lv_iload_n hz.1 hz.2.1 dX6_canBe_90 rfl (lv_at hl 1 rfl) ?_
              refine wrV (A := wA (mw b k I J G)) (As := [.int (nI S)]) (rest := []) hz okYT (c6_layOrder l_ D k b I J (gset G 5 (ccpy (G 5) (fun z_ => G 0 (11 + z_)) (G 0 0 - 1))) S hf (by omega)) (cwV 1 hz.2.2.2.2 gX6_canBe_X6_layOrder rfl rfl rfl (by decide +kernel) ⟨Nat.le_of_ble_eq_true rfl, Nat.le_of_ble_eq_true rfl⟩) hK trivial hP hD hS 0 6 rfl rfl rfl rfl hl.1 rfl (Nat.le_of_ble_eq_true rfl) dX6_canBe_91 ⟨Nat.zero_le _, Nat.zero_le _⟩ (fun r u H locs hp hP hS _ => ?_)
              obtain rfl : r = nI (oB (sOh (G 0) S) (G 0 0 - 1) 2) := hp
              have hP : va_P D vwCl (mw b k I J (gset (gset G 5 (ccpy (G 5) (fun z_ => G 0 (11 + z_)) (G 0 0 - 1))) 7 (oRw (sOh (G 0) S) (G 0 0 - 1) (G 7) 2))) H := hP
              have hD := mw_D (I' := I) (J' := J) (G' := gset (gset G 5 (ccpy (G 5) (fun z_ => G 0 (11 + z_)) (G 0 0 - 1))) 7 (oRw (sOh (G 0) S) (G 0 0 - 1) (G 7) 2)) hD
              refine lv_istore_n (lv' := [(3, .int (nI (oB (sOh (G 0) S) (G 0 0 - 1) 2))), (0, .ref (b 0)), (1, .int (nI S)), (2, .int (nI (sT0 (G 0 0 - 1) S)))]) hz.1 hz.2.1 dX6_canBe_94 rfl hl (by decide) rfl (fun ls hl => ?_)
              have ho := ord_ok (G 0) S (G 7)
              have hcons : oCons (G 0) (sT0 (G 0 0 - 1) S) (ccpy (G 5) (fun z_ => G 0 (11 + z_)) (G 0 0 - 1)) := can_cons hf tnv hall
              generalize oB (sOh (G 0) S) (G 0 0 - 1) 2 = m at ho hl
              generalize oRw (sOh (G 0) S) (G 0 0 - 1) (G 7) 2 = O at ho hP hD
              have om := ho.1
              refine lv_iconst (v := nI 0) hz.1 hz.2.1 dX6_canBe_95 (by decide) ?_
              refine lv_istore (lv' := [(4, .int (nI 0)), (3, .int (nI m)), (0, .ref (b 0)), (1, .int (nI S)), (2, .int (nI (sT0 (G 0 0 - 1) S)))]) hz.1 hz.2.1 dX6_canBe_96 hl (by decide) rfl (fun ls hl => ?_)
              refine lv_aload_n hz.1 hz.2.1 dX6_canBe_98 rfl (lv_at hl 2 rfl) ?_
              refine rg hz hinX6_canBe hK hP 0 rfl rfl 10 (by decide) (List.mem_of_getElem? (i := 3) rfl) rfl (v := .ref (b 9)) rfl dX6_canBe_99 ?_
              refine lv_iconst (v := nI 0) hz.1 hz.2.1 dX6_canBe_102 (by decide) ?_
              have jn_122 : ∀ (x : Nat), (0 < m → x = sMayF (G 0) (ccpy (G 5) (fun z_ => G 0 (11 + z_)) (G 0 0 - 1)) (sT0 (G 0 0 - 1) S) (O 0) (G 0 0 - 1)) → (x < 4096) → ∀ ls : Array Slot, lv_has ls 6 [(0, .ref (b 0)), (1, .int (nI S)), (2, .int (nI (sT0 (G 0 0 - 1) S))), (3, .int (nI m)), (4, .int (nI 0))] → W p_ l_ e_ ({ frames := 2, cells := 0, slots := 0, locals := 44 }) s_ m_ [.ref (b 0), .int (nI S)].toArray bl_ me_ c_ H locs 0 0 (MQ bl_ (va_Qi (fun (r : Int32) (u : (Nat → Nat) × (Nat → Nat) × (Nat → Nat)) => r = bI (sCanB (G 0) S)) (fun (u : (Nat → Nat) × (Nat → Nat) × (Nat → Nat)) (t_ : State) => va_P D vwCl ((fun (u : (Nat → Nat) × (Nat → Nat) × (Nat → Nat)) => mw b k I J (gset (gset (gset G 5 u.1) 7 u.2.1) 8 u.2.2)) u) t_.heap) (wA (mw b k I J G))) [.ref (b 0), .int (nI S)].toArray s_ 0 0 (wA (mw b k I J G))) (F0 m_ 122 ls [.int (nI x), .int (nI 0), .ref (b 9)]) := by
                intro x hx hx2 ls hl
                refine rast hz hK hP hD hS 9 0 rfl rfl (i := 0) (v := x) (by omega) (by decide) dX6_canBe_122 (fun H locs hP hS => ?_)
                have hP : va_P D vwCl (mw b k I J (gset (gset (gset G 5 (ccpy (G 5) (fun z_ => G 0 (11 + z_)) (G 0 0 - 1))) 7 O) 8 (nset (G 8) 0 x))) H := hP
                have hD := mw_D (I' := I) (J' := J) (G' := gset (gset (gset G 5 (ccpy (G 5) (fun z_ => G 0 (11 + z_)) (G 0 0 - 1))) 7 O) 8 (nset (G 8) 0 x)) hD
                have lp_123 : ∀ (fu : Nat) (g : Nat) (kk : Nat) (T : Nat) (tn : Nat → Nat) (lf : Nat → Nat), (rn (G 0) O m g kk T tn lf = some (sCanB (G 0) S)) → (T < 256) → (∀ v, v < (G 0 0 - 1) → T.testBit v = true → tn v < 12) → (kk ≤ m) → (∀ i, i ≤ kk → i < m → lf i < 4096) → g < fu → ∀ ls : Array Slot, ∀ (H : Heap) (locs : List Loc), va_P D vwCl (mw b k I J (gset (gset (gset G 5 tn) 7 O) 8 lf)) H → va_S (wA (mw b k I J G)) s_.heap H locs → lv_has ls 6 [(0, .ref (b 0)), (1, .int (nI S)), (2, .int (nI T)), (3, .int (nI m)), (4, .int (nI kk))] → W p_ l_ e_ ({ frames := 2, cells := 0, slots := 0, locals := 44 }) s_ m_ [.ref (b 0), .int (nI S)].toArray bl_ me_ c_ H locs 0 0 (MQ bl_ (va_Qi (fun (r : Int32) (u : (Nat → Nat) × (Nat → Nat) × (Nat → Nat)) => r = bI (sCanB (G 0) S)) (fun (u : (Nat → Nat) × (Nat → Nat) × (Nat → Nat)) (t_ : State) => va_P D vwCl ((fun (u : (Nat → Nat) × (Nat → Nat) × (Nat → Nat)) => mw b k I J (gset (gset (gset G 5 u.1) 7 u.2.1) 8 u.2.2)) u) t_.heap) (wA (mw b k I J G))) [.ref (b 0), .int (nI S)].toArray s_ 0 0 (wA (mw b k I J G))) (F0 m_ 123 ls []) := by
                  intro fu
                  induction fu with
                  | zero => intro g kk T tn lf hrn hT htn hkk hlf hm; exact absurd hm (Nat.not_lt_zero _)
                  | succ fu ih123 =>
                    intro g kk T tn lf hrn hT htn hkk hlf hm ls H locs hP hS hl
                    have hD := mw_D (I' := I) (J' := J) (G' := gset (gset (gset G 5 tn) 7 O) 8 lf) hD
                    refine lv_iload hz.1 hz.2.1 dX6_canBe_123 (lv_at hl 4 rfl) ?_
                    refine lv_iload_n hz.1 hz.2.1 dX6_canBe_125 rfl (lv_at hl 3 rfl) ?_
                    refine jge (tgt := 249) hz dX6_canBe_126 (by decide) (by omega) (by omega) (fun c_126 => ?_) (fun c_126 => ?_)
                    · obtain ⟨gg, rfl⟩ := rn_pos hrn
                      have hcb : sCanB (G 0) S = true := by rw [rn_true (by omega)] at hrn; exact (Option.some.inj hrn).symm
                      refine lv_iconst (v := nI 1) hz.1 hz.2.1 dX6_canBe_249 (by decide) ?_
                      exact wr_zret hz hr hlk dX6_canBe_250 hS (bI_1 hcb) ((tn, O, lf)) hP (rfl)
                    · obtain ⟨gg, rfl⟩ := rn_pos hrn
                      have l0 := hlf kk (Nat.le_refl _) c_126
                      have ow := ho.2.1 kk c_126
                      refine lv_aload_n hz.1 hz.2.1 dX6_canBe_129 rfl (lv_at hl 0 rfl) ?_
                      refine rg hz hinX6_canBe hK hP 0 rfl rfl 10 (by decide) (List.mem_of_getElem? (i := 3) rfl) rfl (v := .ref (b 9)) rfl dX6_canBe_130 ?_
                      refine lv_iload hz.1 hz.2.1 dX6_canBe_133 (lv_at hl 4 rfl) ?_
                      refine rald hz hK hP 9 0 rfl rfl (i := kk) (by omega) (by decide) (v := nI (lf kk)) rfl dX6_canBe_135 ?_
                      refine jne0 (tgt := 166) hz dX6_canBe_136 (by decide) (by omega) (fun c_136 => ?_) (fun c_136 => ?_)
                      · have lw := low_all l0 c_136
                        have ll := low_less l0 c_136
                        refine lv_aload_n hz.1 hz.2.1 dX6_canBe_166 rfl (lv_at hl 0 rfl) ?_
                        refine rg hz hinX6_canBe hK hP 0 rfl rfl 9 (by decide) (List.mem_of_getElem? (i := 4) rfl) rfl (v := .ref (b 8)) rfl dX6_canBe_167 ?_
                        refine lv_iload hz.1 hz.2.1 dX6_canBe_170 (lv_at hl 4 rfl) ?_
                        refine rald hz hK hP 8 0 rfl rfl (i := kk) (by omega) (by decide) (v := nI (O kk)) rfl dX6_canBe_172 ?_
                        refine lv_istore (lv' := [(5, .int (nI (O kk))), (0, .ref (b 0)), (1, .int (nI S)), (2, .int (nI T)), (3, .int (nI m)), (4, .int (nI kk))]) hz.1 hz.2.1 dX6_canBe_173 hl (by decide) rfl (fun ls hl => ?_)
                        refine lv_aload_n hz.1 hz.2.1 dX6_canBe_175 rfl (lv_at hl 1 rfl) ?_
                        refine rg hz hinX6_canBe hK hP 0 rfl rfl 7 (by decide) (List.mem_of_getElem? (i := 1) rfl) rfl (v := .ref (b 6)) rfl dX6_canBe_176 ?_
                        refine lv_iload hz.1 hz.2.1 dX6_canBe_179 (lv_at hl 0 rfl) ?_
                        refine lv_aload_n hz.1 hz.2.1 dX6_canBe_181 rfl (lv_at hl 1 rfl) ?_
                        refine rg hz hinX6_canBe hK hP 0 rfl rfl 10 (by decide) (List.mem_of_getElem? (i := 3) rfl) rfl (v := .ref (b 9)) rfl dX6_canBe_182 ?_
                        refine lv_iload hz.1 hz.2.1 dX6_canBe_185 (lv_at hl 5 rfl) ?_
                        refine rald hz hK hP 9 0 rfl rfl (i := kk) (by omega) (by decide) (v := nI (lf kk)) rfl dX6_canBe_187 ?_
                        refine rdS (As := [.int (nI (lf kk))]) (rest := [.int (nI (O kk)), .ref (b 6)]) hz (c6_lowest l_ (lf kk) (by omega) (by assumption)) rfl (va_cwS 1 hz.2.2.2.2 gX6_canBe_X6_lowest rfl rfl rfl (by decide +kernel) ⟨Nat.le_of_ble_eq_true rfl, Nat.le_of_ble_eq_true rfl⟩) rfl hl.1 rfl (Nat.le_of_ble_eq_true rfl) dX6_canBe_188 ⟨Nat.zero_le _, Nat.zero_le _⟩ ?_
                        refine rast hz hK hP hD hS 6 0 rfl rfl (i := (O kk)) (v := (sLow (lf kk))) (by omega) (by decide) dX6_canBe_191 (fun H locs hP hS => ?_)
                        have hP : va_P D vwCl (mw b k I J (gset (gset (gset G 5 (nset tn (O kk) (sLow (lf kk)))) 7 O) 8 lf)) H := hP
                        have hD := mw_D (I' := I) (J' := J) (G' := gset (gset (gset G 5 (nset tn (O kk) (sLow (lf kk)))) 7 O) 8 lf) hD
                        refine lv_aload_n hz.1 hz.2.1 dX6_canBe_192 rfl (lv_at hl 1 rfl) ?_
                        refine rg hz hinX6_canBe hK hP 0 rfl rfl 10 (by decide) (List.mem_of_getElem? (i := 3) rfl) rfl (v := .ref (b 9)) rfl dX6_canBe_193 ?_
                        refine lv_iload hz.1 hz.2.1 dX6_canBe_196 (lv_at hl 5 rfl) ?_
                        refine lv_dup2_11 hz.1 hz.2.1 dX6_canBe_198 rfl rfl ?_
                        refine rald hz hK hP 9 0 rfl rfl (i := kk) (by omega) (by decide) (v := nI (lf kk)) rfl dX6_canBe_199 ?_
                        refine lv_aload_n hz.1 hz.2.1 dX6_canBe_200 rfl (lv_at hl 1 rfl) ?_
                        refine rg hz hinX6_canBe hK hP 0 rfl rfl 10 (by decide) (List.mem_of_getElem? (i := 3) rfl) rfl (v := .ref (b 9)) rfl dX6_canBe_201 ?_
                        refine lv_iload hz.1 hz.2.1 dX6_canBe_204 (lv_at hl 5 rfl) ?_
                        refine rald hz hK hP 9 0 rfl rfl (i := kk) (by omega) (by decide) (v := nI (lf kk)) rfl dX6_canBe_206 ?_
                        refine lv_iconst (v := nI 1) hz.1 hz.2.1 dX6_canBe_207 (by decide) ?_
                        refine lv_isub hz.1 hz.2.1 dX6_canBe_208 ?_
                        refine toe (z := nI ((lf kk) - 1)) (pk_sub (by omega)) ?_
                        refine lv_iand hz.1 hz.2.1 dX6_canBe_209 ?_
                        refine toe (z := nI ((lf kk) &&& ((lf kk) - 1))) (fa_and _ _) ?_
                        refine rast hz hK hP hD hS 9 0 rfl rfl (i := kk) (v := ((lf kk) &&& ((lf kk) - 1))) (by omega) (by decide) dX6_canBe_210 (fun H locs hP hS => ?_)
                        have hP : va_P D vwCl (mw b k I J (gset (gset (gset G 5 (nset tn (O kk) (sLow (lf kk)))) 7 O) 8 (nset lf kk ((lf kk) &&& ((lf kk) - 1))))) H := hP
                        have hD := mw_D (I' := I) (J' := J) (G' := gset (gset (gset G 5 (nset tn (O kk) (sLow (lf kk)))) 7 O) 8 (nset lf kk ((lf kk) &&& ((lf kk) - 1)))) hD
                        refine lv_iload_n hz.1 hz.2.1 dX6_canBe_211 rfl (lv_at hl 3 rfl) ?_
                        refine lv_iconst (v := nI 1) hz.1 hz.2.1 dX6_canBe_212 (by decide) ?_
                        refine lv_iload hz.1 hz.2.1 dX6_canBe_213 (lv_at hl 0 rfl) ?_
                        refine lv_ishl hz.1 hz.2.1 dX6_canBe_215 ?_
                        refine toe (z := nI (2 ^ (O kk))) (nI_shl1 (by omega)) ?_
                        refine lv_ior hz.1 hz.2.1 dX6_canBe_216 ?_
                        refine toe (z := nI (T ||| (2 ^ (O kk)))) (fa_or _ _) ?_
                        refine lv_istore_n (lv' := [(2, .int (nI (T ||| (2 ^ (O kk))))), (5, .int (nI (O kk))), (0, .ref (b 0)), (1, .int (nI S)), (3, .int (nI m)), (4, .int (nI kk))]) hz.1 hz.2.1 dX6_canBe_217 rfl hl (by decide) rfl (fun ls hl => ?_)
                        refine lv_iinc (v := nI (kk + 1)) (lv' := [(4, .int (nI (kk + 1))), (2, .int (nI (T ||| (2 ^ (O kk))))), (5, .int (nI (O kk))), (0, .ref (b 0)), (1, .int (nI S)), (3, .int (nI m))]) hz.1 hz.2.1 dX6_canBe_218 hl (k := 5) rfl (nI_add _ 1) (by decide) rfl (fun ls hl => ?_)
                        refine lv_iload hz.1 hz.2.1 dX6_canBe_221 (lv_at hl 0 rfl) ?_
                        refine lv_iload_n hz.1 hz.2.1 dX6_canBe_223 rfl (lv_at hl 5 rfl) ?_
                        refine jge (tgt := 246) hz dX6_canBe_224 (by decide) (by omega) (by omega) (fun c_224 => ?_) (fun c_224 => ?_)
                        · refine lv_goto (tgt := 123) hz.1 hz.2.1 dX6_canBe_246 (by decide) ?_
                          exact ih123 gg (kk + 1) (T ||| 2 ^ O kk) (nset tn (O kk) (sLow (lf kk))) (nset lf kk (lf kk &&& (lf kk - 1))) ((rn_last c_126 c_224 c_136).symm.trans hrn) (or_p2 hT (by omega)) (tn_up lw.1 htn) (by omega) (lf_end c_224 hlf (by omega)) (by omega) ls H locs hP hS (lv_sub hl [3, 4, 1, 5, 0] rfl)
                        · have ow2 := ho.2.1 (kk + 1) c_224
                          refine lv_aload_n hz.1 hz.2.1 dX6_canBe_227 rfl (lv_at hl 3 rfl) ?_
                          refine rg hz hinX6_canBe hK hP 0 rfl rfl 10 (by decide) (List.mem_of_getElem? (i := 3) rfl) rfl (v := .ref (b 9)) rfl dX6_canBe_228 ?_
                          refine lv_iload hz.1 hz.2.1 dX6_canBe_231 (lv_at hl 0 rfl) ?_
                          refine lv_aload_n hz.1 hz.2.1 dX6_canBe_233 rfl (lv_at hl 3 rfl) ?_
                          refine lv_aload_n hz.1 hz.2.1 dX6_canBe_234 rfl (lv_at hl 3 rfl) ?_
                          refine rg hz hinX6_canBe hK hP 0 rfl rfl 9 (by decide) (List.mem_of_getElem? (i := 4) rfl) rfl (v := .ref (b 8)) rfl dX6_canBe_235 ?_
                          refine lv_iload hz.1 hz.2.1 dX6_canBe_238 (lv_at hl 0 rfl) ?_
                          refine rald hz hK hP 8 0 rfl rfl (i := (kk + 1)) (by omega) (by decide) (v := nI (O (kk + 1))) rfl dX6_canBe_240 ?_
                          refine lv_iload_n hz.1 hz.2.1 dX6_canBe_241 rfl (lv_at hl 1 rfl) ?_
                          refine rdV (A := wA (mw b k I J G)) (As := [.int (nI (O (kk + 1))), .int (nI (T ||| (2 ^ (O kk))))]) (rest := [.int (nI (kk + 1)), .ref (b 9)]) hz okYT (c6_mayBe l_ D k b I J (gset (gset (gset G 5 (nset tn (O kk) (sLow (lf kk)))) 7 O) 8 (nset lf kk ((lf kk) &&& ((lf kk) - 1)))) (O (kk + 1)) (T ||| (2 ^ (O kk))) hf ow2 (or_p2 hT (by omega)) hA (tn_up lw.1 htn)) (cwV 2 hz.2.2.2.2 gX6_canBe_X6_mayBe rfl rfl rfl (by decide +kernel) ⟨Nat.le_of_ble_eq_true rfl, Nat.le_of_ble_eq_true rfl⟩) hK trivial hP hD hS 0 6 rfl rfl rfl rfl hl.1 rfl (Nat.le_of_ble_eq_true rfl) dX6_canBe_242 ⟨Nat.zero_le _, Nat.zero_le _⟩ ?_
                          refine toe (z := nI (sMayF (G 0) (nset tn (O kk) (sLow (lf kk))) (T ||| (2 ^ (O kk))) (O (kk + 1)) (G 0 0 - 1))) rfl ?_
                          refine rast hz hK hP hD hS 9 0 rfl rfl (i := (kk + 1)) (v := (sMayF (G 0) (nset tn (O kk) (sLow (lf kk))) (T ||| (2 ^ (O kk))) (O (kk + 1)) (G 0 0 - 1))) (by omega) (by decide) dX6_canBe_245 (fun H locs hP hS => ?_)
                          have hP : va_P D vwCl (mw b k I J (gset (gset (gset G 5 (nset tn (O kk) (sLow (lf kk)))) 7 O) 8 (nset (nset lf kk ((lf kk) &&& ((lf kk) - 1))) (kk + 1) (sMayF (G 0) (nset tn (O kk) (sLow (lf kk))) (T ||| (2 ^ (O kk))) (O (kk + 1)) (G 0 0 - 1))))) H := hP
                          have hD := mw_D (I' := I) (J' := J) (G' := gset (gset (gset G 5 (nset tn (O kk) (sLow (lf kk)))) 7 O) 8 (nset (nset lf kk ((lf kk) &&& ((lf kk) - 1))) (kk + 1) (sMayF (G 0) (nset tn (O kk) (sLow (lf kk))) (T ||| (2 ^ (O kk))) (O (kk + 1)) (G 0 0 - 1)))) hD
                          refine lv_goto (tgt := 123) hz.1 hz.2.1 dX6_canBe_246 (by decide) ?_
                          exact ih123 gg (kk + 1) (T ||| 2 ^ O kk) (nset tn (O kk) (sLow (lf kk))) (nset (nset lf kk (lf kk &&& (lf kk - 1))) (kk + 1) (sMayF (G 0) (nset tn (O kk) (sLow (lf kk))) (T ||| 2 ^ O kk) (O (kk + 1)) (G 0 0 - 1))) ((rn_on c_224 c_136).symm.trans hrn) (or_p2 hT (by omega)) (tn_up lw.1 htn) (by omega) (lf_up hlf (by omega) (sMayF_lt _ _ _ _ _)) (by omega) ls H locs hP hS (lv_sub hl [3, 4, 1, 5, 0] rfl)
                      · refine lv_iinc (v := nI kk - nI 1) (lv' := [(4, .int (nI kk - nI 1)), (0, .ref (b 0)), (1, .int (nI S)), (2, .int (nI T)), (3, .int (nI m))]) hz.1 hz.2.1 dX6_canBe_139 hl (k := 4) rfl (nI_m1 _) (by decide) rfl (fun ls hl => ?_)
                        refine lv_iload hz.1 hz.2.1 dX6_canBe_142 (lv_at hl 0 rfl) ?_
                        refine lv_if_ge (tgt := 149) hz.1 hz.2.1 dX6_canBe_144 (by decide) (fun c_144 => ?_) (fun c_144 => ?_)
                        · have k1 := dec_ge (by omega) c_144
                          have ow1 := ho.2.1 (kk - 1) (by omega)
                          rw [pk_sub (a := kk) (b := 1) k1] at hl
                          refine lv_iload_n hz.1 hz.2.1 dX6_canBe_149 rfl (lv_at hl 3 rfl) ?_
                          refine lv_iconst (v := nI 1) hz.1 hz.2.1 dX6_canBe_150 (by decide) ?_
                          refine lv_aload_n hz.1 hz.2.1 dX6_canBe_151 rfl (lv_at hl 1 rfl) ?_
                          refine rg hz hinX6_canBe hK hP 0 rfl rfl 9 (by decide) (List.mem_of_getElem? (i := 4) rfl) rfl (v := .ref (b 8)) rfl dX6_canBe_152 ?_
                          refine lv_iload hz.1 hz.2.1 dX6_canBe_155 (lv_at hl 0 rfl) ?_
                          refine rald hz hK hP 8 0 rfl rfl (i := (kk - 1)) (by omega) (by decide) (v := nI (O (kk - 1))) rfl dX6_canBe_157 ?_
                          refine lv_ishl hz.1 hz.2.1 dX6_canBe_158 ?_
                          refine toe (z := nI (2 ^ (O (kk - 1)))) (nI_shl1 (by omega)) ?_
                          refine lv_iconst (v := (-1)) hz.1 hz.2.1 dX6_canBe_159 (by decide) ?_
                          refine lv_ixor hz.1 hz.2.1 dX6_canBe_160 ?_
                          refine lv_iand hz.1 hz.2.1 dX6_canBe_161 ?_
                          refine toe (z := nI (T ^^^ (T &&& 2 ^ O (kk - 1)))) (nI_andnot _ _) ?_
                          refine lv_istore_n (lv' := [(2, .int (nI (T ^^^ (T &&& 2 ^ O (kk - 1))))), (4, .int (nI (kk - 1))), (0, .ref (b 0)), (1, .int (nI S)), (3, .int (nI m))]) hz.1 hz.2.1 dX6_canBe_162 rfl hl (by decide) rfl (fun ls hl => ?_)
                          refine lv_goto (tgt := 123) hz.1 hz.2.1 dX6_canBe_163 (by decide) ?_
                          exact ih123 gg (kk - 1) (T ^^^ (T &&& 2 ^ O (kk - 1))) tn lf ((rn_bk c_126 k1 c_136).symm.trans hrn) (Nat.lt_of_le_of_lt (andnot_le _ _) hT) (tn_down htn) (by omega) (fun i h1 h2 => hlf i (by omega) h2) (by omega) ls H locs hP hS (lv_sub hl [2, 3, 0, 4, 1] rfl)
                        · obtain rfl := dec_lt (by omega) c_144
                          have hcb : sCanB (G 0) S = false := by rw [rn_false c_126 c_136] at hrn; exact (Option.some.inj hrn).symm
                          refine lv_iconst (v := nI 0) hz.1 hz.2.1 dX6_canBe_147 (by decide) ?_
                          exact wr_zret hz hr hlk dX6_canBe_148 hS (bI_0 hcb) ((tn, O, lf)) hP (rfl)
                obtain ⟨g0, hg0⟩ := rn_whole (lf := nset (G 8) 0 x) ho.2.1 ho.2.2.1 ho.2.2.2 sT0_w tnv hcons (fun q => by rw [nset_same]; exact hx q)
                exact lp_123 _ g0 0 (sT0 (G 0 0 - 1) S) (ccpy (G 5) (fun z_ => G 0 (11 + z_)) (G 0 0 - 1)) (nset (G 8) 0 x) (hg0) (t0) (fun v hv _ => tnw v hv) (Nat.zero_le _) (fun i h1 _ => by rw [show i = 0 by omega, nset_same]; exact hx2) (Nat.lt_succ_self _) ls _ _ hP hS (lv_sub hl [0, 1, 2, 3, 4] rfl)
              refine lv_iload_n hz.1 hz.2.1 dX6_canBe_103 rfl (lv_at hl 1 rfl) ?_
              refine jne0 (tgt := 111) hz dX6_canBe_104 (by decide) (by omega) (fun c_104 => ?_) (fun c_104 => ?_)
              · have o0 := ho.2.1 0 (by omega)
                refine lv_aload_n hz.1 hz.2.1 dX6_canBe_111 rfl (lv_at hl 2 rfl) ?_
                refine lv_aload_n hz.1 hz.2.1 dX6_canBe_112 rfl (lv_at hl 2 rfl) ?_
                refine rg hz hinX6_canBe hK hP 0 rfl rfl 9 (by decide) (List.mem_of_getElem? (i := 4) rfl) rfl (v := .ref (b 8)) rfl dX6_canBe_113 ?_
                refine lv_iconst (v := nI 0) hz.1 hz.2.1 dX6_canBe_116 (by decide) ?_
                refine rald hz hK hP 8 0 rfl rfl (i := 0) (by omega) (by decide) (v := nI (O 0)) rfl dX6_canBe_117 ?_
                refine lv_iload_n hz.1 hz.2.1 dX6_canBe_118 rfl (lv_at hl 4 rfl) ?_
                refine rdV (A := wA (mw b k I J G)) (As := [.int (nI (O 0)), .int (nI (sT0 (G 0 0 - 1) S))]) (rest := [.int (nI 0), .ref (b 9)]) hz okYT (c6_mayBe l_ D k b I J (gset (gset G 5 (ccpy (G 5) (fun z_ => G 0 (11 + z_)) (G 0 0 - 1))) 7 O) (O 0) (sT0 (G 0 0 - 1) S) hf o0 t0 hA (fun v hv _ => tnw v hv)) (cwV 2 hz.2.2.2.2 gX6_canBe_X6_mayBe rfl rfl rfl (by decide +kernel) ⟨Nat.le_of_ble_eq_true rfl, Nat.le_of_ble_eq_true rfl⟩) hK trivial hP hD hS 0 6 rfl rfl rfl rfl hl.1 rfl (Nat.le_of_ble_eq_true rfl) dX6_canBe_119 ⟨Nat.zero_le _, Nat.zero_le _⟩ ?_
                refine toe (z := nI (sMayF (G 0) (ccpy (G 5) (fun z_ => G 0 (11 + z_)) (G 0 0 - 1)) (sT0 (G 0 0 - 1) S) (O 0) (G 0 0 - 1))) rfl ?_
                exact jn_122 (sMayF (G 0) (ccpy (G 5) (fun z_ => G 0 (11 + z_)) (G 0 0 - 1)) (sT0 (G 0 0 - 1) S) (O 0) (G 0 0 - 1)) (fun _ => rfl) (sMayF_lt _ _ _ _ _) ls (lv_sub hl [2, 3, 4, 1, 0] rfl)
              · refine lv_iconst (v := nI 0) hz.1 hz.2.1 dX6_canBe_107 (by decide) ?_
                refine lv_goto (tgt := 122) hz.1 hz.2.1 dX6_canBe_108 (by decide) ?_
                exact jn_122 0 (fun q => by omega) (by decide) ls (lv_sub hl [2, 3, 4, 1, 0] rfl)
            · refine lv_iload_n hz.1 hz.2.1 dX6_canBe_54 rfl (lv_at hl 2 rfl) ?_
              refine lv_iload_n hz.1 hz.2.1 dX6_canBe_55 rfl (lv_at hl 3 rfl) ?_
              refine lv_ishr hz.1 hz.2.1 dX6_canBe_56 ?_
              refine toe (z := nI ((sT0 (G 0 0 - 1) S) / 2 ^ w)) (nI_shr (by omega) (by omega)) ?_
              refine lv_iconst (v := nI 1) hz.1 hz.2.1 dX6_canBe_57 (by decide) ?_
              refine lv_iand hz.1 hz.2.1 dX6_canBe_58 ?_
              refine toe (z := nI (((sT0 (G 0 0 - 1) S) / 2 ^ w) % 2)) (nI_and1 _) ?_
              refine lv_iconst (v := nI 1) hz.1 hz.2.1 dX6_canBe_59 (by decide) ?_
              refine jne (tgt := 83) hz dX6_canBe_60 (by decide) (by omega) (by omega) (fun c_60 => ?_) (fun c_60 => ?_)
              · refine lv_iinc (v := nI (w + 1)) (lv' := [(3, .int (nI (w + 1))), (0, .ref (b 0)), (1, .int (nI S)), (2, .int (nI (sT0 (G 0 0 - 1) S)))]) hz.1 hz.2.1 dX6_canBe_83 hl (k := 3) rfl (nI_add _ 1) (by decide) rfl (fun ls hl => ?_)
                refine lv_goto (tgt := 46) hz.1 hz.2.1 dX6_canBe_86 (by decide) ?_
                exact ih46 (w + 1) (by omega) (fun j hj hb => by rcases Nat.lt_or_ge j w with q | q; exact hall j q hb; rw [show j = w by omega] at hb ⊢; exact absurd ((tb_f.mp c_60).symm.trans hb) (by decide)) (by omega) ls (lv_sub hl [1, 2, 3, 0] rfl)
              · refine lv_aload_n hz.1 hz.2.1 dX6_canBe_63 rfl (lv_at hl 0 rfl) ?_
                refine lv_iload_n hz.1 hz.2.1 dX6_canBe_64 rfl (lv_at hl 3 rfl) ?_
                refine lv_iload_n hz.1 hz.2.1 dX6_canBe_65 rfl (lv_at hl 2 rfl) ?_
                refine rdV (A := wA (mw b k I J G)) (As := [.int (nI w), .int (nI (sT0 (G 0 0 - 1) S))]) (rest := []) hz okYT (c6_mayBe l_ D k b I J (gset G 5 (ccpy (G 5) (fun z_ => G 0 (11 + z_)) (G 0 0 - 1))) w (sT0 (G 0 0 - 1) S) hf c_51 t0 hA (fun v hv _ => tnw v hv)) (cwV 2 hz.2.2.2.2 gX6_canBe_X6_mayBe rfl rfl rfl (by decide +kernel) ⟨Nat.le_of_ble_eq_true rfl, Nat.le_of_ble_eq_true rfl⟩) hK trivial hP hD hS 0 6 rfl rfl rfl rfl hl.1 rfl (Nat.le_of_ble_eq_true rfl) dX6_canBe_66 ⟨Nat.zero_le _, Nat.zero_le _⟩ ?_
                refine toe (z := nI (sMayF (G 0) (ccpy (G 5) (fun z_ => G 0 (11 + z_)) (G 0 0 - 1)) (sT0 (G 0 0 - 1) S) w (G 0 0 - 1))) rfl ?_
                refine lv_aload_n hz.1 hz.2.1 dX6_canBe_69 rfl (lv_at hl 0 rfl) ?_
                refine rg hz hinX6_canBe hK hP 0 rfl rfl 7 (by decide) (List.mem_of_getElem? (i := 1) rfl) rfl (v := .ref (b 6)) rfl dX6_canBe_70 ?_
                refine lv_iload_n hz.1 hz.2.1 dX6_canBe_73 rfl (lv_at hl 3 rfl) ?_
                refine rald hz hK hP 6 0 rfl rfl (i := w) (by omega) (by decide) (v := nI ((ccpy (G 5) (fun z_ => G 0 (11 + z_)) (G 0 0 - 1)) w)) rfl dX6_canBe_74 ?_
                refine toe (z := nI (G 0 (11 + w))) (by rw [tnv w c_51]) ?_
                have mm := sMayF_lt (G 0) (ccpy (G 5) (fun z_ => G 0 (11 + z_)) (G 0 0 - 1)) (sT0 (G 0 0 - 1) S) w (G 0 0 - 1)
                have tt := hf.tn (w := w) (by omega)
                refine lv_ishr hz.1 hz.2.1 dX6_canBe_75 ?_
                refine toe (z := nI ((sMayF (G 0) (ccpy (G 5) (fun z_ => G 0 (11 + z_)) (G 0 0 - 1)) (sT0 (G 0 0 - 1) S) w (G 0 0 - 1)) / 2 ^ (G 0 (11 + w)))) (nI_shr (by omega) (by omega)) ?_
                refine lv_iconst (v := nI 1) hz.1 hz.2.1 dX6_canBe_76 (by decide) ?_
                refine lv_iand hz.1 hz.2.1 dX6_canBe_77 ?_
                refine toe (z := nI (((sMayF (G 0) (ccpy (G 5) (fun z_ => G 0 (11 + z_)) (G 0 0 - 1)) (sT0 (G 0 0 - 1) S) w (G 0 0 - 1)) / 2 ^ (G 0 (11 + w))) % 2)) (nI_and1 _) ?_
                refine jne0 (tgt := 83) hz dX6_canBe_78 (by decide) (by omega) (fun c_78 => ?_) (fun c_78 => ?_)
                · refine lv_iinc (v := nI (w + 1)) (lv' := [(3, .int (nI (w + 1))), (0, .ref (b 0)), (1, .int (nI S)), (2, .int (nI (sT0 (G 0 0 - 1) S)))]) hz.1 hz.2.1 dX6_canBe_83 hl (k := 3) rfl (nI_add _ 1) (by decide) rfl (fun ls hl => ?_)
                  refine lv_goto (tgt := 46) hz.1 hz.2.1 dX6_canBe_86 (by decide) ?_
                  exact ih46 (w + 1) (by omega) (fun j hj hb => by rcases Nat.lt_or_ge j w with q | q; exact hall j q hb; rw [show j = w by omega] at hb ⊢; exact tb_n0.mp c_78) (by omega) ls (lv_sub hl [1, 2, 3, 0] rfl)
                · refine lv_iconst (v := nI 0) hz.1 hz.2.1 dX6_canBe_81 (by decide) ?_
                  exact wr_zret hz hr hlk dX6_canBe_82 hS (bI_0 (can_no hf tnv c_51 (tb_t.mp c_60) (tb_0.mp c_78))) ((ccpy (G 5) (fun z_ => G 0 (11 + z_)) (G 0 0 - 1), G 7, G 8)) hP (rfl)
        exact lp_46 _ 0 (by omega) (fun j hj => absurd hj (Nat.not_lt_zero j)) (Nat.lt_succ_self _) ls (lv_sub hl [1, 2, 3, 0] rfl)
      · refine lv_aload_n hz.1 hz.2.1 dX6_canBe_23 rfl (lv_at hl 0 rfl) ?_
        refine rg hz hinX6_canBe hK hP 0 rfl rfl 7 (by decide) (List.mem_of_getElem? (i := 1) rfl) rfl (v := .ref (b 6)) rfl dX6_canBe_24 ?_
        refine lv_iload_n hz.1 hz.2.1 dX6_canBe_27 rfl (lv_at hl 3 rfl) ?_
        refine lv_aload_n hz.1 hz.2.1 dX6_canBe_28 rfl (lv_at hl 0 rfl) ?_
        refine rg hz hinX6_canBe hK hP 0 rfl rfl 0 (by decide) (List.mem_of_getElem? (i := 2) rfl) rfl (v := .ref (b 1)) rfl dX6_canBe_29 ?_
        refine lv_bipush (v := nI 11) hz.1 hz.2.1 dX6_canBe_32 (by decide) ?_
        refine lv_iload_n hz.1 hz.2.1 dX6_canBe_34 rfl (lv_at hl 3 rfl) ?_
        refine lv_iadd hz.1 hz.2.1 dX6_canBe_35 ?_
        refine toe (z := nI (11 + w)) (nI_add _ _) ?_
        refine rald hz hK hP 1 0 rfl rfl (i := (11 + w)) (by omega) (by decide) (v := nI (G 0 (11 + w))) rfl dX6_canBe_36 ?_
        refine rast hz hK hP hD hS 6 0 rfl rfl (i := w) (v := (G 0 (11 + w))) (by omega) (by decide) dX6_canBe_37 (fun H locs hP hS => ?_)
        have hP : va_P D vwCl (mw b k I J (gset G 5 (nset (ccpy (G 5) (fun z_ => G 0 (11 + z_)) w) w (G 0 (11 + w))))) H := hP
        have hD := mw_D (I' := I) (J' := J) (G' := gset G 5 (nset (ccpy (G 5) (fun z_ => G 0 (11 + z_)) w) w (G 0 (11 + w)))) hD
        have hP : va_P D vwCl (mw b k I J (gset G 5 (ccpy (G 5) (fun z_ => G 0 (11 + z_)) (w + 1)))) H := by rw [← ccpy_s]; exact hP
        have hD := mw_D (I' := I) (J' := J) (G' := gset G 5 (ccpy (G 5) (fun z_ => G 0 (11 + z_)) (w + 1))) hD
        refine lv_iinc (v := nI (w + 1)) (lv' := [(3, .int (nI (w + 1))), (0, .ref (b 0)), (1, .int (nI S)), (2, .int (nI (sT0 (G 0 0 - 1) S)))]) hz.1 hz.2.1 dX6_canBe_38 hl (k := 3) rfl (nI_add _ 1) (by decide) rfl (fun ls hl => ?_)
        refine lv_goto (tgt := 15) hz.1 hz.2.1 dX6_canBe_41 (by decide) ?_
        exact ih15 (w + 1) (by omega) (by omega) ls H locs hP hS (lv_sub hl [1, 2, 3, 0] rfl)
  have hP : va_P D vwCl (mw b k I J (gset G 5 (ccpy (G 5) (fun z_ => G 0 (11 + z_)) 0))) s_.heap := by rw [ccpy_0]; exact hP
  exact lp_15 _ 0 (by omega) (Nat.lt_succ_self _) ls _ _ hP hS (lv_sub hl [2, 3, 1, 0] rfl)

theorem hinX6_retune : ∀ w ∈ wsX60, w ∈ wsX6_retune := fun _ h => List.mem_cons_of_mem _ (List.mem_append_right _ h)
set_option maxHeartbeats 4000000 in
set_option maxRecDepth 100000 in
theorem c6_retune (l_ : Launch) (D : va_G) (k : Nat → ClassId) (b I J : Nat → Nat) (G : Nat → Nat → Nat)  (hf : Wf (G 0)) : Met l_ yX6_retune wsX6_retune ({ frames := 3, cells := 0, slots := 0, locals := 69 }) (va_Pc [.ref (b 0)] (wH YT D k (mw b k I J G))) (va_Qi (fun (r : Int32) (u : (Nat → Nat) × (Nat → Nat) × (Nat → Nat) × (Nat → Nat) × (Nat → Nat)) => r = oI (sRet (G 0))) (fun (u : (Nat → Nat) × (Nat → Nat) × (Nat → Nat) × (Nat → Nat) × (Nat → Nat)) (t_ : State) => va_P D vwCl ((fun (u : (Nat → Nat) × (Nat → Nat) × (Nat → Nat) × (Nat → Nat) × (Nat → Nat)) => mw b k I J (gset (gset (gset (gset (gset G 4 u.1) 5 u.2.1) 6 u.2.2.1) 7 u.2.2.2.1) 8 u.2.2.2.2)) u) t_.heap) (wA (mw b k I J G))) 0 0 (wA (mw b k I J G)) := by
  refine my_entry (cc := cX6_retune) (maxL := 4) (ret := some .int) (by decide) rfl (Nat.le_of_ble_eq_true rfl) ?_
  intro p_ e_ s_ m_ bl_ me_ c_ hz hr hlk hB ls hl
  obtain ⟨hP, hK, hD0, -⟩ := hB
  have hD := wA.self hD0
  have hS : va_S (wA (mw b k I J G)) s_.heap s_.heap [] := va_S.rf
  have hl : lv_has ls 4 [(0, .ref (b 0))] := hl
  have f0 := hf.n2
  have f1 := hf.n9
  have f2 := hf.fr
  have f3 := hf.gd
  have f8 : 0 < 2 ^ (G 0 0 - 1) := Nat.two_pow_pos _
  have f9 := pow8 hf
  have e1 : ∀ v, v < (G 0 0 - 1) → (ccpy (G 4) (fun z_ => sNe (G 0) z_ (G 0 0 - 1)) (G 0 0 - 1)) v = sNe (G 0) v (G 0 0 - 1) := fun v hv => if_pos hv
  have e2 : ∀ v, v < (G 0 0 - 1) → (ccpy (G 4) (fun z_ => sNe (G 0) z_ (G 0 0 - 1)) (G 0 0 - 1)) v < 256 := fun v hv => by rw [e1 v hv]; exact sNe_lt (by omega)
  refine lv_iconst (v := nI 0) hz.1 hz.2.1 dX6_retune_0 (by decide) ?_
  refine lv_istore_n (lv' := [(1, .int (nI 0)), (0, .ref (b 0))]) hz.1 hz.2.1 dX6_retune_1 rfl hl (by decide) rfl (fun ls hl => ?_)
  have lp_2 : ∀ (fu : Nat) (v : Nat), (v ≤ (G 0 0 - 1)) → (G 0 0 - 1) - v < fu → ∀ ls : Array Slot, ∀ (H : Heap) (locs : List Loc), va_P D vwCl (mw b k I J (gset G 4 (ccpy (G 4) (fun z_ => sNe (G 0) z_ (G 0 0 - 1)) v))) H → va_S (wA (mw b k I J G)) s_.heap H locs → lv_has ls 4 [(0, .ref (b 0)), (1, .int (nI v))] → W p_ l_ e_ ({ frames := 3, cells := 0, slots := 0, locals := 69 }) s_ m_ [.ref (b 0)].toArray bl_ me_ c_ H locs 0 0 (MQ bl_ (va_Qi (fun (r : Int32) (u : (Nat → Nat) × (Nat → Nat) × (Nat → Nat) × (Nat → Nat) × (Nat → Nat)) => r = oI (sRet (G 0))) (fun (u : (Nat → Nat) × (Nat → Nat) × (Nat → Nat) × (Nat → Nat) × (Nat → Nat)) (t_ : State) => va_P D vwCl ((fun (u : (Nat → Nat) × (Nat → Nat) × (Nat → Nat) × (Nat → Nat) × (Nat → Nat)) => mw b k I J (gset (gset (gset (gset (gset G 4 u.1) 5 u.2.1) 6 u.2.2.1) 7 u.2.2.2.1) 8 u.2.2.2.2)) u) t_.heap) (wA (mw b k I J G))) [.ref (b 0)].toArray s_ 0 0 (wA (mw b k I J G))) (F0 m_ 2 ls []) := by
    intro fu
    induction fu with
    | zero => intro v hv hm; exact absurd hm (Nat.not_lt_zero _)
    | succ fu ih2 =>
      intro v hv hm ls H locs hP hS hl
      have hD := mw_D (I' := I) (J' := J) (G' := gset G 4 (ccpy (G 4) (fun z_ => sNe (G 0) z_ (G 0 0 - 1)) v)) hD
      refine lv_iload_n hz.1 hz.2.1 dX6_retune_2 rfl (lv_at hl 1 rfl) ?_
      refine lv_aload_n hz.1 hz.2.1 dX6_retune_3 rfl (lv_at hl 0 rfl) ?_
      refine rdV (A := wA (mw b k I J G)) (As := []) (rest := [.int (nI v)]) hz okYT (c6_wires l_ D k b I J (gset G 4 (ccpy (G 4) (fun z_ => sNe (G 0) z_ (G 0 0 - 1)) v))  (show 1 ≤ G 0 0 by omega)) (cwV 0 hz.2.2.2.2 gX6_retune_X6_wires rfl rfl rfl (by decide +kernel) ⟨Nat.le_of_ble_eq_true rfl, Nat.le_of_ble_eq_true rfl⟩) hK trivial hP hD hS 0 6 rfl rfl rfl rfl hl.1 rfl (Nat.le_of_ble_eq_true rfl) dX6_retune_4 ⟨Nat.zero_le _, Nat.zero_le _⟩ ?_
      refine toe (z := nI ((G 0) 0 - 1)) rfl ?_
      refine jge (tgt := 69) hz dX6_retune_7 (by decide) (by omega) (by omega) (fun c_7 => ?_) (fun c_7 => ?_)
      · obtain rfl : v = G 0 0 - 1 := by omega
        refine lv_iconst (v := nI 0) hz.1 hz.2.1 dX6_retune_69 (by decide) ?_
        refine lv_istore_n (lv' := [(1, .int (nI 0)), (0, .ref (b 0))]) hz.1 hz.2.1 dX6_retune_70 rfl hl (by decide) rfl (fun ls hl => ?_)
        have lp_71 : ∀ (fu : Nat) (v : Nat) (A : Nat → Nat), (v ≤ (G 0 0 - 1)) → (sAkU (G 0) A v 0) → (G 0 0 - 1) - v < fu → ∀ ls : Array Slot, ∀ (H : Heap) (locs : List Loc), va_P D vwCl (mw b k I J (gset (gset G 4 (ccpy (G 4) (fun z_ => sNe (G 0) z_ (G 0 0 - 1)) (G 0 0 - 1))) 6 A)) H → va_S (wA (mw b k I J G)) s_.heap H locs → lv_has ls 4 [(0, .ref (b 0)), (1, .int (nI v))] → W p_ l_ e_ ({ frames := 3, cells := 0, slots := 0, locals := 69 }) s_ m_ [.ref (b 0)].toArray bl_ me_ c_ H locs 0 0 (MQ bl_ (va_Qi (fun (r : Int32) (u : (Nat → Nat) × (Nat → Nat) × (Nat → Nat) × (Nat → Nat) × (Nat → Nat)) => r = oI (sRet (G 0))) (fun (u : (Nat → Nat) × (Nat → Nat) × (Nat → Nat) × (Nat → Nat) × (Nat → Nat)) (t_ : State) => va_P D vwCl ((fun (u : (Nat → Nat) × (Nat → Nat) × (Nat → Nat) × (Nat → Nat) × (Nat → Nat)) => mw b k I J (gset (gset (gset (gset (gset G 4 u.1) 5 u.2.1) 6 u.2.2.1) 7 u.2.2.2.1) 8 u.2.2.2.2)) u) t_.heap) (wA (mw b k I J G))) [.ref (b 0)].toArray s_ 0 0 (wA (mw b k I J G))) (F0 m_ 71 ls []) := by
          intro fu
          induction fu with
          | zero => intro v A hv hA hm; exact absurd hm (Nat.not_lt_zero _)
          | succ fu ih71 =>
            intro v A hv hA hm ls H locs hP hS hl
            have hD := mw_D (I' := I) (J' := J) (G' := gset (gset G 4 (ccpy (G 4) (fun z_ => sNe (G 0) z_ (G 0 0 - 1)) (G 0 0 - 1))) 6 A) hD
            refine lv_iload_n hz.1 hz.2.1 dX6_retune_71 rfl (lv_at hl 1 rfl) ?_
            refine lv_aload_n hz.1 hz.2.1 dX6_retune_72 rfl (lv_at hl 0 rfl) ?_
            refine rdV (A := wA (mw b k I J G)) (As := []) (rest := [.int (nI v)]) hz okYT (c6_wires l_ D k b I J (gset (gset G 4 (ccpy (G 4) (fun z_ => sNe (G 0) z_ (G 0 0 - 1)) (G 0 0 - 1))) 6 A)  (show 1 ≤ G 0 0 by omega)) (cwV 0 hz.2.2.2.2 gX6_retune_X6_wires rfl rfl rfl (by decide +kernel) ⟨Nat.le_of_ble_eq_true rfl, Nat.le_of_ble_eq_true rfl⟩) hK trivial hP hD hS 0 6 rfl rfl rfl rfl hl.1 rfl (Nat.le_of_ble_eq_true rfl) dX6_retune_73 ⟨Nat.zero_le _, Nat.zero_le _⟩ ?_
            refine toe (z := nI ((G 0) 0 - 1)) rfl ?_
            refine jge (tgt := 107) hz dX6_retune_76 (by decide) (by omega) (by omega) (fun c_76 => ?_) (fun c_76 => ?_)
            · obtain rfl : v = G 0 0 - 1 := by omega
              have hG := sAkU_end hA
              refine lv_iconst (v := nI 1) hz.1 hz.2.1 dX6_retune_107 (by decide) ?_
              refine lv_aload_n hz.1 hz.2.1 dX6_retune_108 rfl (lv_at hl 0 rfl) ?_
              refine rdV (A := wA (mw b k I J G)) (As := []) (rest := [.int (nI 1)]) hz okYT (c6_wires l_ D k b I J (gset (gset G 4 (ccpy (G 4) (fun z_ => sNe (G 0) z_ (G 0 0 - 1)) (G 0 0 - 1))) 6 A)  (show 1 ≤ G 0 0 by omega)) (cwV 0 hz.2.2.2.2 gX6_retune_X6_wires rfl rfl rfl (by decide +kernel) ⟨Nat.le_of_ble_eq_true rfl, Nat.le_of_ble_eq_true rfl⟩) hK trivial hP hD hS 0 6 rfl rfl rfl rfl hl.1 rfl (Nat.le_of_ble_eq_true rfl) dX6_retune_109 ⟨Nat.zero_le _, Nat.zero_le _⟩ ?_
              refine toe (z := nI ((G 0) 0 - 1)) rfl ?_
              refine lv_ishl hz.1 hz.2.1 dX6_retune_112 ?_
              refine toe (z := nI (2 ^ ((G 0) 0 - 1))) (nI_shl1 (by omega)) ?_
              refine lv_iconst (v := nI 1) hz.1 hz.2.1 dX6_retune_113 (by decide) ?_
              refine lv_isub hz.1 hz.2.1 dX6_retune_114 ?_
              refine toe (z := nI ((2 ^ ((G 0) 0 - 1)) - 1)) (pk_sub (by omega)) ?_
              refine lv_istore_n (lv' := [(1, .int (nI ((2 ^ ((G 0) 0 - 1)) - 1))), (0, .ref (b 0))]) hz.1 hz.2.1 dX6_retune_115 rfl hl (by decide) rfl (fun ls hl => ?_)
              refine lv_aload_n hz.1 hz.2.1 dX6_retune_116 rfl (lv_at hl 1 rfl) ?_
              refine lv_iload_n hz.1 hz.2.1 dX6_retune_117 rfl (lv_at hl 0 rfl) ?_
              refine wrV (A := wA (mw b k I J G)) (As := [.int (nI ((2 ^ ((G 0) 0 - 1)) - 1))]) (rest := []) hz okYT (c6_canBe l_ D k b I J (gset (gset G 4 (ccpy (G 4) (fun z_ => sNe (G 0) z_ (G 0 0 - 1)) (G 0 0 - 1))) 6 A) ((2 ^ ((G 0) 0 - 1)) - 1) hf (by omega) hG) (cwV 1 hz.2.2.2.2 gX6_retune_X6_canBe rfl rfl rfl (by decide +kernel) ⟨Nat.le_of_ble_eq_true rfl, Nat.le_of_ble_eq_true rfl⟩) hK trivial hP hD hS 0 6 rfl rfl rfl rfl hl.1 rfl (Nat.le_of_ble_eq_true rfl) dX6_retune_118 ⟨Nat.zero_le _, Nat.zero_le _⟩ (fun r u H locs hp hP hS _ => ?_)
              obtain ⟨U1, V1, Z1⟩ := u
              obtain rfl : r = bI (sCanB (G 0) ((2 ^ ((G 0) 0 - 1)) - 1)) := hp
              have hP : va_P D vwCl (mw b k I J (gset (gset (gset (gset (gset G 4 (ccpy (G 4) (fun z_ => sNe (G 0) z_ (G 0 0 - 1)) (G 0 0 - 1))) 5 U1) 6 A) 7 V1) 8 Z1)) H := hP
              have hD := mw_D (I' := I) (J' := J) (G' := gset (gset (gset (gset (gset G 4 (ccpy (G 4) (fun z_ => sNe (G 0) z_ (G 0 0 - 1)) (G 0 0 - 1))) 5 U1) 6 A) 7 V1) 8 Z1) hD
              refine zne (tgt := 126) hz dX6_retune_121 (by decide) (fun c_121 => ?_) (fun c_121 => ?_)
              · refine lv_iconst (v := nI 0) hz.1 hz.2.1 dX6_retune_126 (by decide) ?_
                refine lv_istore_n (lv' := [(2, .int (nI 0)), (1, .int (nI ((2 ^ ((G 0) 0 - 1)) - 1))), (0, .ref (b 0))]) hz.1 hz.2.1 dX6_retune_127 rfl hl (by decide) rfl (fun ls hl => ?_)
                have lp_128 : ∀ (fu : Nat) (s : Nat) (B5 : Nat → Nat) (B7 : Nat → Nat) (B8 : Nat → Nat), (s ≤ 2 ^ (G 0 0 - 1)) → 2 ^ (G 0 0 - 1) - s < fu → ∀ ls : Array Slot, ∀ (H : Heap) (locs : List Loc), va_P D vwCl (mw b k I J (gset (gset (gset (gset (gset G 4 (ccpy (G 4) (fun z_ => sNe (G 0) z_ (G 0 0 - 1)) (G 0 0 - 1))) 5 B5) 6 A) 7 B7) 8 B8)) H → va_S (wA (mw b k I J G)) s_.heap H locs → lv_has ls 4 [(0, .ref (b 0)), (1, .int (nI (rFold (sCanB (G 0)) (2 ^ (G 0 0 - 1) - 1) s))), (2, .int (nI s))] → W p_ l_ e_ ({ frames := 3, cells := 0, slots := 0, locals := 69 }) s_ m_ [.ref (b 0)].toArray bl_ me_ c_ H locs 0 0 (MQ bl_ (va_Qi (fun (r : Int32) (u : (Nat → Nat) × (Nat → Nat) × (Nat → Nat) × (Nat → Nat) × (Nat → Nat)) => r = oI (sRet (G 0))) (fun (u : (Nat → Nat) × (Nat → Nat) × (Nat → Nat) × (Nat → Nat) × (Nat → Nat)) (t_ : State) => va_P D vwCl ((fun (u : (Nat → Nat) × (Nat → Nat) × (Nat → Nat) × (Nat → Nat) × (Nat → Nat)) => mw b k I J (gset (gset (gset (gset (gset G 4 u.1) 5 u.2.1) 6 u.2.2.1) 7 u.2.2.2.1) 8 u.2.2.2.2)) u) t_.heap) (wA (mw b k I J G))) [.ref (b 0)].toArray s_ 0 0 (wA (mw b k I J G))) (F0 m_ 128 ls []) := by
                  intro fu
                  induction fu with
                  | zero => intro s B5 B7 B8 hs hm; exact absurd hm (Nat.not_lt_zero _)
                  | succ fu ih128 =>
                    intro s B5 B7 B8 hs hm ls H locs hP hS hl
                    have hD := mw_D (I' := I) (J' := J) (G' := gset (gset (gset (gset (gset G 4 (ccpy (G 4) (fun z_ => sNe (G 0) z_ (G 0 0 - 1)) (G 0 0 - 1))) 5 B5) 6 A) 7 B7) 8 B8) hD
                    refine lv_iload_n hz.1 hz.2.1 dX6_retune_128 rfl (lv_at hl 2 rfl) ?_
                    refine lv_iconst (v := nI 1) hz.1 hz.2.1 dX6_retune_129 (by decide) ?_
                    refine lv_aload_n hz.1 hz.2.1 dX6_retune_130 rfl (lv_at hl 0 rfl) ?_
                    refine rdV (A := wA (mw b k I J G)) (As := []) (rest := [.int (nI 1), .int (nI s)]) hz okYT (c6_wires l_ D k b I J (gset (gset (gset (gset (gset G 4 (ccpy (G 4) (fun z_ => sNe (G 0) z_ (G 0 0 - 1)) (G 0 0 - 1))) 5 B5) 6 A) 7 B7) 8 B8)  (show 1 ≤ G 0 0 by omega)) (cwV 0 hz.2.2.2.2 gX6_retune_X6_wires rfl rfl rfl (by decide +kernel) ⟨Nat.le_of_ble_eq_true rfl, Nat.le_of_ble_eq_true rfl⟩) hK trivial hP hD hS 0 6 rfl rfl rfl rfl hl.1 rfl (Nat.le_of_ble_eq_true rfl) dX6_retune_131 ⟨Nat.zero_le _, Nat.zero_le _⟩ ?_
                    refine toe (z := nI ((G 0) 0 - 1)) rfl ?_
                    refine lv_ishl hz.1 hz.2.1 dX6_retune_134 ?_
                    refine toe (z := nI (2 ^ ((G 0) 0 - 1))) (nI_shl1 (by omega)) ?_
                    refine jge (tgt := 177) hz dX6_retune_135 (by decide) (by omega) (by omega) (fun c_135 => ?_) (fun c_135 => ?_)
                    · obtain rfl : s = 2 ^ (G 0 0 - 1) := by omega
                      refine lv_iload_n hz.1 hz.2.1 dX6_retune_177 rfl (lv_at hl 1 rfl) ?_
                      exact wr_iret hz hr hlk dX6_retune_178 hS ((ccpy (G 4) (fun z_ => sNe (G 0) z_ (G 0 0 - 1)) (G 0 0 - 1), B5, A, B7, B8)) hP (by rw [sRet, if_pos c_121]; rfl)
                    · have r1 := (rFold_in (C := sCanB (G 0)) (f := (2 ^ (G 0 0 - 1) - 1)) (B := 2 ^ (G 0 0 - 1)) (by omega) c_121 s hs).1
                      have p1 := sPop_le (rFold (sCanB (G 0)) (2 ^ (G 0 0 - 1) - 1) s)
                      have p2 := sPop_le s
                      refine lv_iload_n hz.1 hz.2.1 dX6_retune_138 rfl (lv_at hl 1 rfl) ?_
                      refine rdS (As := [.int (nI (rFold (sCanB (G 0)) (2 ^ (G 0 0 - 1) - 1) s))]) (rest := []) hz (c6_bits l_ (rFold (sCanB (G 0)) (2 ^ (G 0 0 - 1) - 1) s) (by omega)) rfl (va_cwS 1 hz.2.2.2.2 gX6_retune_X6_bits rfl rfl rfl (by decide +kernel) ⟨Nat.le_of_ble_eq_true rfl, Nat.le_of_ble_eq_true rfl⟩) rfl hl.1 rfl (Nat.le_of_ble_eq_true rfl) dX6_retune_139 ⟨Nat.zero_le _, Nat.zero_le _⟩ ?_
                      refine lv_iload_n hz.1 hz.2.1 dX6_retune_142 rfl (lv_at hl 2 rfl) ?_
                      refine rdS (As := [.int (nI s)]) (rest := [.int (nI (sPop (rFold (sCanB (G 0)) (2 ^ (G 0 0 - 1) - 1) s)))]) hz (c6_bits l_ s (by omega)) rfl (va_cwS 1 hz.2.2.2.2 gX6_retune_X6_bits rfl rfl rfl (by decide +kernel) ⟨Nat.le_of_ble_eq_true rfl, Nat.le_of_ble_eq_true rfl⟩) rfl hl.1 rfl (Nat.le_of_ble_eq_true rfl) dX6_retune_143 ⟨Nat.zero_le _, Nat.zero_le _⟩ ?_
                      refine lv_isub hz.1 hz.2.1 dX6_retune_146 ?_
                      refine toe (z := nI (sPop (rFold (sCanB (G 0)) (2 ^ (G 0 0 - 1) - 1) s)) - nI (sPop s)) (rfl) ?_
                      refine lv_istore_n (lv' := [(3, .int (nI (sPop (rFold (sCanB (G 0)) (2 ^ (G 0 0 - 1) - 1) s)) - nI (sPop s))), (0, .ref (b 0)), (1, .int (nI (rFold (sCanB (G 0)) (2 ^ (G 0 0 - 1) - 1) s))), (2, .int (nI s))]) hz.1 hz.2.1 dX6_retune_147 rfl hl (by decide) rfl (fun ls hl => ?_)
                      refine lv_iload_n hz.1 hz.2.1 dX6_retune_148 rfl (lv_at hl 0 rfl) ?_
                      refine lv_if_gt (tgt := 161) hz.1 hz.2.1 dX6_retune_149 (by decide) (fun c_149 => ?_) (fun c_149 => ?_)
                      · have hlt : rLt s (rFold (sCanB (G 0)) (2 ^ (G 0 0 - 1) - 1) s) := Or.inl ((sub_gt (by omega) (by omega)).mp c_149)
                        refine lv_aload_n hz.1 hz.2.1 dX6_retune_161 rfl (lv_at hl 1 rfl) ?_
                        refine lv_iload_n hz.1 hz.2.1 dX6_retune_162 rfl (lv_at hl 3 rfl) ?_
                        refine wrV (A := wA (mw b k I J G)) (As := [.int (nI s)]) (rest := []) hz okYT (c6_canBe l_ D k b I J (gset (gset (gset (gset (gset G 4 (ccpy (G 4) (fun z_ => sNe (G 0) z_ (G 0 0 - 1)) (G 0 0 - 1))) 5 B5) 6 A) 7 B7) 8 B8) s hf (by omega) hG) (cwV 1 hz.2.2.2.2 gX6_retune_X6_canBe rfl rfl rfl (by decide +kernel) ⟨Nat.le_of_ble_eq_true rfl, Nat.le_of_ble_eq_true rfl⟩) hK trivial hP hD hS 0 6 rfl rfl rfl rfl hl.1 rfl (Nat.le_of_ble_eq_true rfl) dX6_retune_163 ⟨Nat.zero_le _, Nat.zero_le _⟩ (fun r u H locs hp hP hS _ => ?_)
                        obtain ⟨U2, V2, Z2⟩ := u
                        obtain rfl : r = bI (sCanB (G 0) s) := hp
                        have hP : va_P D vwCl (mw b k I J (gset (gset (gset (gset (gset G 4 (ccpy (G 4) (fun z_ => sNe (G 0) z_ (G 0 0 - 1)) (G 0 0 - 1))) 5 U2) 6 A) 7 V2) 8 Z2)) H := hP
                        have hD := mw_D (I' := I) (J' := J) (G' := gset (gset (gset (gset (gset G 4 (ccpy (G 4) (fun z_ => sNe (G 0) z_ (G 0 0 - 1)) (G 0 0 - 1))) 5 U2) 6 A) 7 V2) 8 Z2) hD
                        refine zeq (tgt := 171) hz dX6_retune_166 (by decide) (fun c_166 => ?_) (fun c_166 => ?_)
                        · have es := rFold_0 (C := sCanB (G 0)) (f := (2 ^ (G 0 0 - 1) - 1)) (s := s) (fun q => absurd (c_166.symm.trans q.2) (by decide))
                          rw [← es] at hl
                          refine lv_iinc (v := nI (s + 1)) (lv' := [(2, .int (nI (s + 1))), (3, .int (nI (sPop (rFold (sCanB (G 0)) (2 ^ (G 0 0 - 1) - 1) (s + 1))) - nI (sPop s))), (0, .ref (b 0)), (1, .int (nI (rFold (sCanB (G 0)) (2 ^ (G 0 0 - 1) - 1) (s + 1))))]) hz.1 hz.2.1 dX6_retune_171 hl (k := 3) rfl (nI_add _ 1) (by decide) rfl (fun ls hl => ?_)
                          refine lv_goto (tgt := 128) hz.1 hz.2.1 dX6_retune_174 (by decide) ?_
                          exact ih128 (s + 1) U2 V2 Z2 (by omega) (by omega) ls H locs hP hS (lv_sub hl [2, 3, 0] rfl)
                        · refine lv_iload_n hz.1 hz.2.1 dX6_retune_169 rfl (lv_at hl 3 rfl) ?_
                          refine toe (z := nI (rFold (sCanB (G 0)) (2 ^ (G 0 0 - 1) - 1) (s + 1))) (by rw [rFold_1 hlt c_166]) ?_
                          refine lv_istore_n (lv' := [(1, .int (nI (rFold (sCanB (G 0)) (2 ^ (G 0 0 - 1) - 1) (s + 1)))), (3, .int (nI (sPop (rFold (sCanB (G 0)) (2 ^ (G 0 0 - 1) - 1) s)) - nI (sPop s))), (0, .ref (b 0)), (2, .int (nI s))]) hz.1 hz.2.1 dX6_retune_170 rfl hl (by decide) rfl (fun ls hl => ?_)
                          refine lv_iinc (v := nI (s + 1)) (lv' := [(2, .int (nI (s + 1))), (1, .int (nI (rFold (sCanB (G 0)) (2 ^ (G 0 0 - 1) - 1) (s + 1)))), (3, .int (nI (sPop (rFold (sCanB (G 0)) (2 ^ (G 0 0 - 1) - 1) s)) - nI (sPop s))), (0, .ref (b 0))]) hz.1 hz.2.1 dX6_retune_171 hl (k := 3) rfl (nI_add _ 1) (by decide) rfl (fun ls hl => ?_)
                          refine lv_goto (tgt := 128) hz.1 hz.2.1 dX6_retune_174 (by decide) ?_
                          exact ih128 (s + 1) U2 V2 Z2 (by omega) (by omega) ls H locs hP hS (lv_sub hl [3, 1, 0] rfl)
                      · refine lv_iload_n hz.1 hz.2.1 dX6_retune_152 rfl (lv_at hl 0 rfl) ?_
                        refine lv_if_ne (tgt := 171) hz.1 hz.2.1 dX6_retune_153 (by decide) (fun c_153 => ?_) (fun c_153 => ?_)
                        · have es := rFold_0 (C := sCanB (G 0)) (f := (2 ^ (G 0 0 - 1) - 1)) (s := s) (fun q => q.1.elim (fun z => c_149 ((sub_gt (by omega) (by omega)).mpr z)) (fun z => c_153 ((sub_eq (by omega) (by omega)).mpr z.1)))
                          rw [← es] at hl
                          refine lv_iinc (v := nI (s + 1)) (lv' := [(2, .int (nI (s + 1))), (3, .int (nI (sPop (rFold (sCanB (G 0)) (2 ^ (G 0 0 - 1) - 1) (s + 1))) - nI (sPop s))), (0, .ref (b 0)), (1, .int (nI (rFold (sCanB (G 0)) (2 ^ (G 0 0 - 1) - 1) (s + 1))))]) hz.1 hz.2.1 dX6_retune_171 hl (k := 3) rfl (nI_add _ 1) (by decide) rfl (fun ls hl => ?_)
                          refine lv_goto (tgt := 128) hz.1 hz.2.1 dX6_retune_174 (by decide) ?_
                          exact ih128 (s + 1) B5 B7 B8 (by omega) (by omega) ls H locs hP hS (lv_sub hl [2, 3, 0] rfl)
                        · refine lv_iload_n hz.1 hz.2.1 dX6_retune_156 rfl (lv_at hl 3 rfl) ?_
                          refine lv_iload_n hz.1 hz.2.1 dX6_retune_157 rfl (lv_at hl 2 rfl) ?_
                          refine jge (tgt := 171) hz dX6_retune_158 (by decide) (by omega) (by omega) (fun c_158 => ?_) (fun c_158 => ?_)
                          · have es := rFold_0 (C := sCanB (G 0)) (f := (2 ^ (G 0 0 - 1) - 1)) (s := s) (fun q => q.1.elim (fun z => c_149 ((sub_gt (by omega) (by omega)).mpr z)) (fun z => c_158 z.2))
                            rw [← es] at hl
                            refine lv_iinc (v := nI (s + 1)) (lv' := [(2, .int (nI (s + 1))), (3, .int (nI (sPop (rFold (sCanB (G 0)) (2 ^ (G 0 0 - 1) - 1) (s + 1))) - nI (sPop s))), (0, .ref (b 0)), (1, .int (nI (rFold (sCanB (G 0)) (2 ^ (G 0 0 - 1) - 1) (s + 1))))]) hz.1 hz.2.1 dX6_retune_171 hl (k := 3) rfl (nI_add _ 1) (by decide) rfl (fun ls hl => ?_)
                            refine lv_goto (tgt := 128) hz.1 hz.2.1 dX6_retune_174 (by decide) ?_
                            exact ih128 (s + 1) B5 B7 B8 (by omega) (by omega) ls H locs hP hS (lv_sub hl [2, 3, 0] rfl)
                          · have hlt : rLt s (rFold (sCanB (G 0)) (2 ^ (G 0 0 - 1) - 1) s) := Or.inr ⟨(sub_eq (by omega) (by omega)).mp c_153, c_158⟩
                            refine lv_aload_n hz.1 hz.2.1 dX6_retune_161 rfl (lv_at hl 1 rfl) ?_
                            refine lv_iload_n hz.1 hz.2.1 dX6_retune_162 rfl (lv_at hl 3 rfl) ?_
                            refine wrV (A := wA (mw b k I J G)) (As := [.int (nI s)]) (rest := []) hz okYT (c6_canBe l_ D k b I J (gset (gset (gset (gset (gset G 4 (ccpy (G 4) (fun z_ => sNe (G 0) z_ (G 0 0 - 1)) (G 0 0 - 1))) 5 B5) 6 A) 7 B7) 8 B8) s hf (by omega) hG) (cwV 1 hz.2.2.2.2 gX6_retune_X6_canBe rfl rfl rfl (by decide +kernel) ⟨Nat.le_of_ble_eq_true rfl, Nat.le_of_ble_eq_true rfl⟩) hK trivial hP hD hS 0 6 rfl rfl rfl rfl hl.1 rfl (Nat.le_of_ble_eq_true rfl) dX6_retune_163 ⟨Nat.zero_le _, Nat.zero_le _⟩ (fun r u H locs hp hP hS _ => ?_)
                            obtain ⟨U3, V3, Z3⟩ := u
                            obtain rfl : r = bI (sCanB (G 0) s) := hp
                            have hP : va_P D vwCl (mw b k I J (gset (gset (gset (gset (gset G 4 (ccpy (G 4) (fun z_ => sNe (G 0) z_ (G 0 0 - 1)) (G 0 0 - 1))) 5 U3) 6 A) 7 V3) 8 Z3)) H := hP
                            have hD := mw_D (I' := I) (J' := J) (G' := gset (gset (gset (gset (gset G 4 (ccpy (G 4) (fun z_ => sNe (G 0) z_ (G 0 0 - 1)) (G 0 0 - 1))) 5 U3) 6 A) 7 V3) 8 Z3) hD
                            refine zeq (tgt := 171) hz dX6_retune_166 (by decide) (fun c_166 => ?_) (fun c_166 => ?_)
                            · have es := rFold_0 (C := sCanB (G 0)) (f := (2 ^ (G 0 0 - 1) - 1)) (s := s) (fun q => absurd (c_166.symm.trans q.2) (by decide))
                              rw [← es] at hl
                              refine lv_iinc (v := nI (s + 1)) (lv' := [(2, .int (nI (s + 1))), (3, .int (nI (sPop (rFold (sCanB (G 0)) (2 ^ (G 0 0 - 1) - 1) (s + 1))) - nI (sPop s))), (0, .ref (b 0)), (1, .int (nI (rFold (sCanB (G 0)) (2 ^ (G 0 0 - 1) - 1) (s + 1))))]) hz.1 hz.2.1 dX6_retune_171 hl (k := 3) rfl (nI_add _ 1) (by decide) rfl (fun ls hl => ?_)
                              refine lv_goto (tgt := 128) hz.1 hz.2.1 dX6_retune_174 (by decide) ?_
                              exact ih128 (s + 1) U3 V3 Z3 (by omega) (by omega) ls H locs hP hS (lv_sub hl [2, 3, 0] rfl)
                            · refine lv_iload_n hz.1 hz.2.1 dX6_retune_169 rfl (lv_at hl 3 rfl) ?_
                              refine toe (z := nI (rFold (sCanB (G 0)) (2 ^ (G 0 0 - 1) - 1) (s + 1))) (by rw [rFold_1 hlt c_166]) ?_
                              refine lv_istore_n (lv' := [(1, .int (nI (rFold (sCanB (G 0)) (2 ^ (G 0 0 - 1) - 1) (s + 1)))), (3, .int (nI (sPop (rFold (sCanB (G 0)) (2 ^ (G 0 0 - 1) - 1) s)) - nI (sPop s))), (0, .ref (b 0)), (2, .int (nI s))]) hz.1 hz.2.1 dX6_retune_170 rfl hl (by decide) rfl (fun ls hl => ?_)
                              refine lv_iinc (v := nI (s + 1)) (lv' := [(2, .int (nI (s + 1))), (1, .int (nI (rFold (sCanB (G 0)) (2 ^ (G 0 0 - 1) - 1) (s + 1)))), (3, .int (nI (sPop (rFold (sCanB (G 0)) (2 ^ (G 0 0 - 1) - 1) s)) - nI (sPop s))), (0, .ref (b 0))]) hz.1 hz.2.1 dX6_retune_171 hl (k := 3) rfl (nI_add _ 1) (by decide) rfl (fun ls hl => ?_)
                              refine lv_goto (tgt := 128) hz.1 hz.2.1 dX6_retune_174 (by decide) ?_
                              exact ih128 (s + 1) U3 V3 Z3 (by omega) (by omega) ls H locs hP hS (lv_sub hl [3, 1, 0] rfl)
                exact lp_128 _ 0 U1 V1 Z1 (by omega) (Nat.lt_succ_self _) ls _ _ hP hS (lv_sub hl [2, 1, 0] rfl)
              · refine lv_iconst (v := (-1)) hz.1 hz.2.1 dX6_retune_124 (by decide) ?_
                exact wr_iret hz hr hlk dX6_retune_125 hS ((ccpy (G 4) (fun z_ => sNe (G 0) z_ (G 0 0 - 1)) (G 0 0 - 1), U1, A, V1, Z1)) hP (by rw [sRet, if_neg (by rw [c_121]; decide)]; rfl)
            · refine lv_iconst (v := nI 0) hz.1 hz.2.1 dX6_retune_79 (by decide) ?_
              refine lv_istore_n (lv' := [(2, .int (nI 0)), (0, .ref (b 0)), (1, .int (nI v))]) hz.1 hz.2.1 dX6_retune_80 rfl hl (by decide) rfl (fun ls hl => ?_)
              have lp_81 : ∀ (fu : Nat) (w : Nat) (A : Nat → Nat), (w ≤ (G 0 0 - 1)) → (sAkU (G 0) A v w) → (G 0 0 - 1) - w < fu → ∀ ls : Array Slot, ∀ (H : Heap) (locs : List Loc), va_P D vwCl (mw b k I J (gset (gset G 4 (ccpy (G 4) (fun z_ => sNe (G 0) z_ (G 0 0 - 1)) (G 0 0 - 1))) 6 A)) H → va_S (wA (mw b k I J G)) s_.heap H locs → lv_has ls 4 [(0, .ref (b 0)), (1, .int (nI v)), (2, .int (nI w))] → W p_ l_ e_ ({ frames := 3, cells := 0, slots := 0, locals := 69 }) s_ m_ [.ref (b 0)].toArray bl_ me_ c_ H locs 0 0 (MQ bl_ (va_Qi (fun (r : Int32) (u : (Nat → Nat) × (Nat → Nat) × (Nat → Nat) × (Nat → Nat) × (Nat → Nat)) => r = oI (sRet (G 0))) (fun (u : (Nat → Nat) × (Nat → Nat) × (Nat → Nat) × (Nat → Nat) × (Nat → Nat)) (t_ : State) => va_P D vwCl ((fun (u : (Nat → Nat) × (Nat → Nat) × (Nat → Nat) × (Nat → Nat) × (Nat → Nat)) => mw b k I J (gset (gset (gset (gset (gset G 4 u.1) 5 u.2.1) 6 u.2.2.1) 7 u.2.2.2.1) 8 u.2.2.2.2)) u) t_.heap) (wA (mw b k I J G))) [.ref (b 0)].toArray s_ 0 0 (wA (mw b k I J G))) (F0 m_ 81 ls []) := by
                intro fu
                induction fu with
                | zero => intro w A hw hA hm; exact absurd hm (Nat.not_lt_zero _)
                | succ fu ih81 =>
                  intro w A hw hA hm ls H locs hP hS hl
                  have hD := mw_D (I' := I) (J' := J) (G' := gset (gset G 4 (ccpy (G 4) (fun z_ => sNe (G 0) z_ (G 0 0 - 1)) (G 0 0 - 1))) 6 A) hD
                  refine lv_iload_n hz.1 hz.2.1 dX6_retune_81 rfl (lv_at hl 2 rfl) ?_
                  refine lv_aload_n hz.1 hz.2.1 dX6_retune_82 rfl (lv_at hl 0 rfl) ?_
                  refine rdV (A := wA (mw b k I J G)) (As := []) (rest := [.int (nI w)]) hz okYT (c6_wires l_ D k b I J (gset (gset G 4 (ccpy (G 4) (fun z_ => sNe (G 0) z_ (G 0 0 - 1)) (G 0 0 - 1))) 6 A)  (show 1 ≤ G 0 0 by omega)) (cwV 0 hz.2.2.2.2 gX6_retune_X6_wires rfl rfl rfl (by decide +kernel) ⟨Nat.le_of_ble_eq_true rfl, Nat.le_of_ble_eq_true rfl⟩) hK trivial hP hD hS 0 6 rfl rfl rfl rfl hl.1 rfl (Nat.le_of_ble_eq_true rfl) dX6_retune_83 ⟨Nat.zero_le _, Nat.zero_le _⟩ ?_
                  refine toe (z := nI ((G 0) 0 - 1)) rfl ?_
                  refine jge (tgt := 101) hz dX6_retune_86 (by decide) (by omega) (by omega) (fun c_86 => ?_) (fun c_86 => ?_)
                  · obtain rfl : w = G 0 0 - 1 := by omega
                    refine lv_iinc (v := nI (v + 1)) (lv' := [(1, .int (nI (v + 1))), (0, .ref (b 0)), (2, .int (nI (G 0 0 - 1)))]) hz.1 hz.2.1 dX6_retune_101 hl (k := 1) rfl (nI_add _ 1) (by decide) rfl (fun ls hl => ?_)
                    refine lv_goto (tgt := 71) hz.1 hz.2.1 dX6_retune_104 (by decide) ?_
                    exact ih71 (v + 1) A (by omega) (sAkU_row hA) (by omega) ls H locs hP hS (lv_sub hl [1, 0] rfl)
                  · refine lv_aload_n hz.1 hz.2.1 dX6_retune_89 rfl (lv_at hl 0 rfl) ?_
                    refine lv_iload_n hz.1 hz.2.1 dX6_retune_90 rfl (lv_at hl 1 rfl) ?_
                    refine lv_iload_n hz.1 hz.2.1 dX6_retune_91 rfl (lv_at hl 2 rfl) ?_
                    refine wrVv (A := wA (mw b k I J G)) (As := [.int (nI v), .int (nI w)]) (rest := []) hz okYT (c6_layAlike l_ D k b I J (gset (gset G 4 (ccpy (G 4) (fun z_ => sNe (G 0) z_ (G 0 0 - 1)) (G 0 0 - 1))) 6 A) v w hf c_76 c_86 (e2 v c_76)) (cwV 2 hz.2.2.2.2 gX6_retune_X6_layAlike rfl rfl rfl (by decide +kernel) ⟨Nat.le_of_ble_eq_true rfl, Nat.le_of_ble_eq_true rfl⟩) hK trivial hP hD hS 0 6 rfl rfl rfl rfl hl.1 rfl (Nat.le_of_ble_eq_true rfl) dX6_retune_92 ⟨Nat.zero_le _, Nat.zero_le _⟩ (fun u H locs hp hP hS _ => ?_)
                    have hP : va_P D vwCl (mw b k I J (gset (gset G 4 (ccpy (G 4) (fun z_ => sNe (G 0) z_ (G 0 0 - 1)) (G 0 0 - 1))) 6 (cput A (sAv ((ccpy (G 4) (fun z_ => sNe (G 0) z_ (G 0 0 - 1)) (G 0 0 - 1)) v) (G 0 (3 + v)) (G 0 (3 + w)) w) ((8 * v + w) * 12) 12))) H := hP
                    have hD := mw_D (I' := I) (J' := J) (G' := gset (gset G 4 (ccpy (G 4) (fun z_ => sNe (G 0) z_ (G 0 0 - 1)) (G 0 0 - 1))) 6 (cput A (sAv ((ccpy (G 4) (fun z_ => sNe (G 0) z_ (G 0 0 - 1)) (G 0 0 - 1)) v) (G 0 (3 + v)) (G 0 (3 + w)) w) ((8 * v + w) * 12) 12)) hD
                    refine lv_iinc (v := nI (w + 1)) (lv' := [(2, .int (nI (w + 1))), (0, .ref (b 0)), (1, .int (nI v))]) hz.1 hz.2.1 dX6_retune_95 hl (k := 2) rfl (nI_add _ 1) (by decide) rfl (fun ls hl => ?_)
                    refine lv_goto (tgt := 81) hz.1 hz.2.1 dX6_retune_98 (by decide) ?_
                    exact ih81 (w + 1) (cput A (sAv ((ccpy (G 4) (fun z_ => sNe (G 0) z_ (G 0 0 - 1)) (G 0 0 - 1)) v) (G 0 (3 + v)) (G 0 (3 + w)) w) ((8 * v + w) * 12) 12) (by omega) (sAkU_up hf c_76 c_86 (e1 v c_76) hA) (by omega) ls H locs hP hS (lv_sub hl [1, 2, 0] rfl)
              exact lp_81 _ 0 A (by omega) (hA) (Nat.lt_succ_self _) ls _ _ hP hS (lv_sub hl [1, 2, 0] rfl)
        exact lp_71 _ 0 (G 6) (by omega) (sAkU_0 _ _) (Nat.lt_succ_self _) ls _ _ hP hS (lv_sub hl [1, 0] rfl)
      · refine lv_aload_n hz.1 hz.2.1 dX6_retune_10 rfl (lv_at hl 0 rfl) ?_
        refine rg hz hinX6_retune hK hP 0 rfl rfl 6 (by decide) (List.mem_of_getElem? (i := 1) rfl) rfl (v := .ref (b 5)) rfl dX6_retune_11 ?_
        refine lv_iload_n hz.1 hz.2.1 dX6_retune_14 rfl (lv_at hl 1 rfl) ?_
        refine lv_iconst (v := nI 0) hz.1 hz.2.1 dX6_retune_15 (by decide) ?_
        refine rast hz hK hP hD hS 5 0 rfl rfl (i := v) (v := 0) (by omega) (by decide) dX6_retune_16 (fun H locs hP hS => ?_)
        have hP : va_P D vwCl (mw b k I J (gset G 4 (nset (ccpy (G 4) (fun z_ => sNe (G 0) z_ (G 0 0 - 1)) v) v 0))) H := hP
        have hD := mw_D (I' := I) (J' := J) (G' := gset G 4 (nset (ccpy (G 4) (fun z_ => sNe (G 0) z_ (G 0 0 - 1)) v) v 0)) hD
        refine lv_iconst (v := nI 0) hz.1 hz.2.1 dX6_retune_17 (by decide) ?_
        refine lv_istore_n (lv' := [(2, .int (nI 0)), (0, .ref (b 0)), (1, .int (nI v))]) hz.1 hz.2.1 dX6_retune_18 rfl hl (by decide) rfl (fun ls hl => ?_)
        have lp_19 : ∀ (fu : Nat) (w : Nat), (w ≤ (G 0 0 - 1)) → (G 0 0 - 1) - w < fu → ∀ ls : Array Slot, ∀ (H : Heap) (locs : List Loc), va_P D vwCl (mw b k I J (gset G 4 (nset (ccpy (G 4) (fun z_ => sNe (G 0) z_ (G 0 0 - 1)) v) v (sNe (G 0) v w)))) H → va_S (wA (mw b k I J G)) s_.heap H locs → lv_has ls 4 [(0, .ref (b 0)), (1, .int (nI v)), (2, .int (nI w))] → W p_ l_ e_ ({ frames := 3, cells := 0, slots := 0, locals := 69 }) s_ m_ [.ref (b 0)].toArray bl_ me_ c_ H locs 0 0 (MQ bl_ (va_Qi (fun (r : Int32) (u : (Nat → Nat) × (Nat → Nat) × (Nat → Nat) × (Nat → Nat) × (Nat → Nat)) => r = oI (sRet (G 0))) (fun (u : (Nat → Nat) × (Nat → Nat) × (Nat → Nat) × (Nat → Nat) × (Nat → Nat)) (t_ : State) => va_P D vwCl ((fun (u : (Nat → Nat) × (Nat → Nat) × (Nat → Nat) × (Nat → Nat) × (Nat → Nat)) => mw b k I J (gset (gset (gset (gset (gset G 4 u.1) 5 u.2.1) 6 u.2.2.1) 7 u.2.2.2.1) 8 u.2.2.2.2)) u) t_.heap) (wA (mw b k I J G))) [.ref (b 0)].toArray s_ 0 0 (wA (mw b k I J G))) (F0 m_ 19 ls []) := by
          intro fu
          induction fu with
          | zero => intro w hw hm; exact absurd hm (Nat.not_lt_zero _)
          | succ fu ih19 =>
            intro w hw hm ls H locs hP hS hl
            have hD := mw_D (I' := I) (J' := J) (G' := gset G 4 (nset (ccpy (G 4) (fun z_ => sNe (G 0) z_ (G 0 0 - 1)) v) v (sNe (G 0) v w))) hD
            refine lv_iload_n hz.1 hz.2.1 dX6_retune_19 rfl (lv_at hl 2 rfl) ?_
            refine lv_aload_n hz.1 hz.2.1 dX6_retune_20 rfl (lv_at hl 0 rfl) ?_
            refine rdV (A := wA (mw b k I J G)) (As := []) (rest := [.int (nI w)]) hz okYT (c6_wires l_ D k b I J (gset G 4 (nset (ccpy (G 4) (fun z_ => sNe (G 0) z_ (G 0 0 - 1)) v) v (sNe (G 0) v w)))  (show 1 ≤ G 0 0 by omega)) (cwV 0 hz.2.2.2.2 gX6_retune_X6_wires rfl rfl rfl (by decide +kernel) ⟨Nat.le_of_ble_eq_true rfl, Nat.le_of_ble_eq_true rfl⟩) hK trivial hP hD hS 0 6 rfl rfl rfl rfl hl.1 rfl (Nat.le_of_ble_eq_true rfl) dX6_retune_21 ⟨Nat.zero_le _, Nat.zero_le _⟩ ?_
            refine toe (z := nI ((G 0) 0 - 1)) rfl ?_
            refine jge (tgt := 63) hz dX6_retune_24 (by decide) (by omega) (by omega) (fun c_24 => ?_) (fun c_24 => ?_)
            · obtain rfl : w = G 0 0 - 1 := by omega
              refine lv_iinc (v := nI (v + 1)) (lv' := [(1, .int (nI (v + 1))), (0, .ref (b 0)), (2, .int (nI (G 0 0 - 1)))]) hz.1 hz.2.1 dX6_retune_63 hl (k := 1) rfl (nI_add _ 1) (by decide) rfl (fun ls hl => ?_)
              refine lv_goto (tgt := 2) hz.1 hz.2.1 dX6_retune_66 (by decide) ?_
              have hP : va_P D vwCl (mw b k I J (gset G 4 (ccpy (G 4) (fun z_ => sNe (G 0) z_ (G 0 0 - 1)) (v + 1)))) H := by rw [← ccpy_s]; exact hP
              exact ih2 (v + 1) (by omega) (by omega) ls H locs hP hS (lv_sub hl [1, 0] rfl)
            · have ne1 := sNe_lt (M := G 0) (v := v) (n := w) (by omega)
              refine lv_aload_n hz.1 hz.2.1 dX6_retune_27 rfl (lv_at hl 0 rfl) ?_
              refine rg hz hinX6_retune hK hP 0 rfl rfl 6 (by decide) (List.mem_of_getElem? (i := 1) rfl) rfl (v := .ref (b 5)) rfl dX6_retune_28 ?_
              refine lv_iload_n hz.1 hz.2.1 dX6_retune_31 rfl (lv_at hl 1 rfl) ?_
              refine lv_dup2_11 hz.1 hz.2.1 dX6_retune_32 rfl rfl ?_
              refine rald hz hK hP 5 0 rfl rfl (i := v) (by omega) (by decide) (v := nI ((nset (ccpy (G 4) (fun z_ => sNe (G 0) z_ (G 0 0 - 1)) v) v (sNe (G 0) v w)) v)) rfl dX6_retune_33 ?_
              refine toe (z := nI (sNe (G 0) v w)) (by rw [nset_same]) ?_
              refine lv_iload_n hz.1 hz.2.1 dX6_retune_34 rfl (lv_at hl 2 rfl) ?_
              refine lv_iload_n hz.1 hz.2.1 dX6_retune_35 rfl (lv_at hl 1 rfl) ?_
              refine jeq (tgt := 54) hz dX6_retune_36 (by decide) (by omega) (by omega) (fun c_36 => ?_) (fun c_36 => ?_)
              · refine lv_iconst (v := nI 0) hz.1 hz.2.1 dX6_retune_54 (by decide) ?_
                refine lv_ior hz.1 hz.2.1 dX6_retune_55 ?_
                refine toe (z := nI (sNe (G 0) v (w + 1))) (by rw [fa_or, sNe_s]; simp [sNr, c_36]) ?_
                refine rast hz hK hP hD hS 5 0 rfl rfl (i := v) (v := (sNe (G 0) v (w + 1))) (by omega) (by decide) dX6_retune_56 (fun H locs hP hS => ?_)
                have hP : va_P D vwCl (mw b k I J (gset G 4 (nset (nset (ccpy (G 4) (fun z_ => sNe (G 0) z_ (G 0 0 - 1)) v) v (sNe (G 0) v w)) v (sNe (G 0) v (w + 1))))) H := hP
                have hD := mw_D (I' := I) (J' := J) (G' := gset G 4 (nset (nset (ccpy (G 4) (fun z_ => sNe (G 0) z_ (G 0 0 - 1)) v) v (sNe (G 0) v w)) v (sNe (G 0) v (w + 1)))) hD
                have hP : va_P D vwCl (mw b k I J (gset G 4 (nset (ccpy (G 4) (fun z_ => sNe (G 0) z_ (G 0 0 - 1)) v) v (sNe (G 0) v (w + 1))))) H := by rw [nset_twice] at hP; exact hP
                have hD := mw_D (I' := I) (J' := J) (G' := gset G 4 (nset (ccpy (G 4) (fun z_ => sNe (G 0) z_ (G 0 0 - 1)) v) v (sNe (G 0) v (w + 1)))) hD
                refine lv_iinc (v := nI (w + 1)) (lv' := [(2, .int (nI (w + 1))), (0, .ref (b 0)), (1, .int (nI v))]) hz.1 hz.2.1 dX6_retune_57 hl (k := 2) rfl (nI_add _ 1) (by decide) rfl (fun ls hl => ?_)
                refine lv_goto (tgt := 19) hz.1 hz.2.1 dX6_retune_60 (by decide) ?_
                exact ih19 (w + 1) (by omega) (by omega) ls H locs hP hS (lv_sub hl [1, 2, 0] rfl)
              · refine lv_aload_n hz.1 hz.2.1 dX6_retune_39 rfl (lv_at hl 0 rfl) ?_
                refine lv_iload_n hz.1 hz.2.1 dX6_retune_40 rfl (lv_at hl 1 rfl) ?_
                refine lv_iload_n hz.1 hz.2.1 dX6_retune_41 rfl (lv_at hl 2 rfl) ?_
                refine rdV (A := wA (mw b k I J G)) (As := [.int (nI v), .int (nI w)]) (rest := [.int (nI (sNe (G 0) v w)), .int (nI v), .ref (b 5)]) hz okYT (c6_together l_ D k b I J (gset G 4 (nset (ccpy (G 4) (fun z_ => sNe (G 0) z_ (G 0 0 - 1)) v) v (sNe (G 0) v w))) v w hf (by omega) (by omega)) (cwV 2 hz.2.2.2.2 gX6_retune_X6_together rfl rfl rfl (by decide +kernel) ⟨Nat.le_of_ble_eq_true rfl, Nat.le_of_ble_eq_true rfl⟩) hK trivial hP hD hS 0 6 rfl rfl rfl rfl hl.1 rfl (Nat.le_of_ble_eq_true rfl) dX6_retune_42 ⟨Nat.zero_le _, Nat.zero_le _⟩ ?_
                refine toe (z := bI (sTog (G 0) v w)) rfl ?_
                refine zeq (tgt := 54) hz dX6_retune_45 (by decide) (fun c_45 => ?_) (fun c_45 => ?_)
                · refine lv_iconst (v := nI 0) hz.1 hz.2.1 dX6_retune_54 (by decide) ?_
                  refine lv_ior hz.1 hz.2.1 dX6_retune_55 ?_
                  refine toe (z := nI (sNe (G 0) v (w + 1))) (by rw [fa_or, sNe_s]; simp [sNr, c_36, c_45]) ?_
                  refine rast hz hK hP hD hS 5 0 rfl rfl (i := v) (v := (sNe (G 0) v (w + 1))) (by omega) (by decide) dX6_retune_56 (fun H locs hP hS => ?_)
                  have hP : va_P D vwCl (mw b k I J (gset G 4 (nset (nset (ccpy (G 4) (fun z_ => sNe (G 0) z_ (G 0 0 - 1)) v) v (sNe (G 0) v w)) v (sNe (G 0) v (w + 1))))) H := hP
                  have hD := mw_D (I' := I) (J' := J) (G' := gset G 4 (nset (nset (ccpy (G 4) (fun z_ => sNe (G 0) z_ (G 0 0 - 1)) v) v (sNe (G 0) v w)) v (sNe (G 0) v (w + 1)))) hD
                  have hP : va_P D vwCl (mw b k I J (gset G 4 (nset (ccpy (G 4) (fun z_ => sNe (G 0) z_ (G 0 0 - 1)) v) v (sNe (G 0) v (w + 1))))) H := by rw [nset_twice] at hP; exact hP
                  have hD := mw_D (I' := I) (J' := J) (G' := gset G 4 (nset (ccpy (G 4) (fun z_ => sNe (G 0) z_ (G 0 0 - 1)) v) v (sNe (G 0) v (w + 1)))) hD
                  refine lv_iinc (v := nI (w + 1)) (lv' := [(2, .int (nI (w + 1))), (0, .ref (b 0)), (1, .int (nI v))]) hz.1 hz.2.1 dX6_retune_57 hl (k := 2) rfl (nI_add _ 1) (by decide) rfl (fun ls hl => ?_)
                  refine lv_goto (tgt := 19) hz.1 hz.2.1 dX6_retune_60 (by decide) ?_
                  exact ih19 (w + 1) (by omega) (by omega) ls H locs hP hS (lv_sub hl [1, 2, 0] rfl)
                · refine lv_iconst (v := nI 1) hz.1 hz.2.1 dX6_retune_48 (by decide) ?_
                  refine lv_iload_n hz.1 hz.2.1 dX6_retune_49 rfl (lv_at hl 2 rfl) ?_
                  refine lv_ishl hz.1 hz.2.1 dX6_retune_50 ?_
                  refine toe (z := nI (2 ^ w)) (nI_shl1 (by omega)) ?_
                  refine lv_goto (tgt := 55) hz.1 hz.2.1 dX6_retune_51 (by decide) ?_
                  refine lv_ior hz.1 hz.2.1 dX6_retune_55 ?_
                  refine toe (z := nI (sNe (G 0) v (w + 1))) (by rw [fa_or, sNe_s]; simp [sNr, c_36, c_45]) ?_
                  refine rast hz hK hP hD hS 5 0 rfl rfl (i := v) (v := (sNe (G 0) v (w + 1))) (by omega) (by decide) dX6_retune_56 (fun H locs hP hS => ?_)
                  have hP : va_P D vwCl (mw b k I J (gset G 4 (nset (nset (ccpy (G 4) (fun z_ => sNe (G 0) z_ (G 0 0 - 1)) v) v (sNe (G 0) v w)) v (sNe (G 0) v (w + 1))))) H := hP
                  have hD := mw_D (I' := I) (J' := J) (G' := gset G 4 (nset (nset (ccpy (G 4) (fun z_ => sNe (G 0) z_ (G 0 0 - 1)) v) v (sNe (G 0) v w)) v (sNe (G 0) v (w + 1)))) hD
                  have hP : va_P D vwCl (mw b k I J (gset G 4 (nset (ccpy (G 4) (fun z_ => sNe (G 0) z_ (G 0 0 - 1)) v) v (sNe (G 0) v (w + 1))))) H := by rw [nset_twice] at hP; exact hP
                  have hD := mw_D (I' := I) (J' := J) (G' := gset G 4 (nset (ccpy (G 4) (fun z_ => sNe (G 0) z_ (G 0 0 - 1)) v) v (sNe (G 0) v (w + 1)))) hD
                  refine lv_iinc (v := nI (w + 1)) (lv' := [(2, .int (nI (w + 1))), (0, .ref (b 0)), (1, .int (nI v))]) hz.1 hz.2.1 dX6_retune_57 hl (k := 2) rfl (nI_add _ 1) (by decide) rfl (fun ls hl => ?_)
                  refine lv_goto (tgt := 19) hz.1 hz.2.1 dX6_retune_60 (by decide) ?_
                  exact ih19 (w + 1) (by omega) (by omega) ls H locs hP hS (lv_sub hl [1, 2, 0] rfl)
        have hP : va_P D vwCl (mw b k I J (gset G 4 (nset (ccpy (G 4) (fun z_ => sNe (G 0) z_ (G 0 0 - 1)) v) v (sNe (G 0) v 0)))) H := hP
        exact lp_19 _ 0 (by omega) (Nat.lt_succ_self _) ls _ _ hP hS (lv_sub hl [1, 2, 0] rfl)
  have hP : va_P D vwCl (mw b k I J (gset G 4 (ccpy (G 4) (fun z_ => sNe (G 0) z_ (G 0 0 - 1)) 0))) s_.heap := by rw [ccpy_0]; exact hP
  exact lp_2 _ 0 (by omega) (Nat.lt_succ_self _) ls _ _ hP hS (lv_sub hl [1, 0] rfl)
