theorem hinX3_canTune_X3 : ∀ w ∈ wsX30, w ∈ wsX3_canTune := fun _ h => List.mem_cons_of_mem _ (List.mem_append_right _ h)
set_option maxHeartbeats 4000000 in
set_option maxRecDepth 100000 in
theorem c3_canTune (l_ : Launch) (D : va_G) (k : Nat → ClassId) (a : Nat → Nat) (tS : Nat) (sk sv : Nat → Nat) (Y : Nat → Nat) (Nt : Nat → Nat) (Sl : Nat → Nat) (Mt : Nat → Nat) (Ch : Nat → Nat → Nat) (S : Nat) (hH : kHyp Mt Sl (Y 0)) (hT : tOK Nt Sl Ch) (hS : S < 256) : Met l_ yX3_canTune wsX3_canTune ({ frames := 10, cells := 0, slots := 0, locals := 267 }) (va_Pc [.ref (a 39), .int (nI S)] (wH (Am tS sk sv) D k (tu a k Y Nt Sl Mt Ch))) (va_Qi (fun (r : Int32) (u : Nat → Nat → Nat) => r = bI (kSolB Mt Sl (Y 0) (kCf Nt S)) ∧ ∀ i v, u i v < 4096) (fun (u : Nat → Nat → Nat) (t_ : State) => va_P D vwCl ((fun (u : Nat → Nat → Nat) => tu a k Y Nt Sl Mt u) u) t_.heap) (wA (tu a k Y Nt Sl Mt Ch))) 0 0 (wA (tu a k Y Nt Sl Mt Ch)) := by
  refine my_entry (cc := cX3_canTune) (maxL := 3) (ret := some .boolean) (by decide) rfl (Nat.le_of_ble_eq_true rfl) ?_
  intro p_ e_ s_ m_ bl_ me_ c_ hz hr hlk hB ls hl
  obtain ⟨hP, hK, hD0, hy⟩ := hB
  have hD := wA.self hD0
  have hS : va_S (wA (tu a k Y Nt Sl Mt Ch)) s_.heap s_.heap [] := va_S.rf
  have hl : lv_has ls 3 [(0, .ref (a 39)), (1, .int (nI S))] := hl
  have o1 := hH.1
  refine lv_iconst (v := nI 0) hz.1 hz.2.1 dX3_canTune_0 (by decide) ?_
  refine lv_istore_n (lv' := [(2, .int (nI 0)), (0, .ref (a 39)), (1, .int (nI S))]) hz.1 hz.2.1 dX3_canTune_1 rfl hl (by decide) rfl (fun ls hl => ?_)
  have lp_2 : ∀ (fu : Nat) (w : Nat), (w ≤ 8) → 8 - w < fu → ∀ ls : Array Slot, ∀ (H : Heap) (locs : List Loc), va_P D vwCl (tu a k Y Nt Sl Mt (gset Ch 0 (ccpy (Ch 0) (kCf Nt S) w))) H → va_S (wA (tu a k Y Nt Sl Mt Ch)) s_.heap H locs → lv_has ls 3 [(0, .ref (a 39)), (1, .int (nI S)), (2, .int (nI w))] → W p_ l_ e_ ({ frames := 10, cells := 0, slots := 0, locals := 267 }) s_ m_ [.ref (a 39), .int (nI S)].toArray bl_ me_ c_ H locs 0 0 (MQ bl_ (va_Qi (fun (r : Int32) (u : Nat → Nat → Nat) => r = bI (kSolB Mt Sl (Y 0) (kCf Nt S)) ∧ ∀ i v, u i v < 4096) (fun (u : Nat → Nat → Nat) (t_ : State) => va_P D vwCl ((fun (u : Nat → Nat → Nat) => tu a k Y Nt Sl Mt u) u) t_.heap) (wA (tu a k Y Nt Sl Mt Ch))) [.ref (a 39), .int (nI S)].toArray s_ 0 0 (wA (tu a k Y Nt Sl Mt Ch))) (F0 m_ 2 ls []) := by
    intro fu
    induction fu with
    | zero => intro w hw hm; exact absurd hm (Nat.not_lt_zero _)
    | succ fu ih2 =>
      intro w hw hm ls H locs hP hS hl
      have hD : va_D (wA (tu a k Y Nt Sl Mt Ch)) (tu a k Y Nt Sl Mt (gset Ch 0 (ccpy (Ch 0) (kCf Nt S) w))) := hD.same rfl
      refine lv_iload_n hz.1 hz.2.1 dX3_canTune_2 rfl (lv_at hl 2 rfl) ?_
      refine lv_bipush (v := nI 8) hz.1 hz.2.1 dX3_canTune_3 (by decide) ?_
      refine jge (tgt := 44) hz dX3_canTune_5 (by decide) (by omega) (by omega) (fun c_5 => ?_) (fun c_5 => ?_)
      · obtain rfl : w = 8 := by omega
        have p8 := sPop_len (n := 8) o1
        refine lv_aload_n hz.1 hz.2.1 dX3_canTune_44 rfl (lv_at hl 0 rfl) ?_
        refine lv_aload_n hz.1 hz.2.1 dX3_canTune_45 rfl (lv_at hl 0 rfl) ?_
        refine rg (T := TX3) (N := 5) hz hinX3_canTune_X3 hK hP 0 rfl rfl 4 (by decide) (List.mem_of_getElem? (i := 3) rfl) rfl (v := .int (nI (Y 0))) rfl dX3_canTune_46 ?_
        refine lv_iconst (v := nI 0) hz.1 hz.2.1 dX3_canTune_49 (by decide) ?_
        refine wrV (A := wA (tu a k Y Nt Sl Mt Ch)) (As := [.int (nI (Y 0)), .int (nI 0)]) (rest := []) hz (okAm tS sk sv) (c3_tuneRest_0 l_ D k a tS sk sv Y Nt Sl Mt (gset Ch 0 (ccpy (Ch 0) (kCf Nt S) 8)) (Y 0) hH hT.2.1 (gset_lt hT.2.2 (ccpy_lt (hT.2.2 0) (kCf_lt hT.1 S) 8)) (by omega)) (cwV 2 hz.2.2.2.2 gX3_canTune_X3_tuneRest rfl rfl rfl (by decide +kernel) ⟨Nat.le_of_ble_eq_true rfl, Nat.le_of_ble_eq_true rfl⟩) hK hy hP hD hS 0 3 rfl rfl rfl rfl hl.1 rfl (Nat.le_of_ble_eq_true rfl) dX3_canTune_50 ⟨Nat.zero_le _, Nat.zero_le _⟩ (fun r u H1 locs hp hP1 hS hfr => ?_)
        obtain ⟨u1, hren_⟩ : ∃ z_, z_ = u := ⟨u, rfl⟩
        subst hren_
        obtain ⟨g1, g2, g3⟩ := hp
        have e5 : kSolB Mt Sl (Y 0) (gset Ch 0 (ccpy (Ch 0) (kCf Nt S) 8) 0) = kSolB Mt Sl (Y 0) (kCf Nt S) := solB_eq (fun v hv _ => by rw [gset_same]; exact if_pos hv)
        rw [e5] at g1
        obtain rfl : r = bI (kSolB Mt Sl (Y 0) (kCf Nt S)) := g1
        have hP : va_P D vwCl (tu a k Y Nt Sl Mt u1) H1 := hP1
        generalize H1 = H at hP hS ⊢
        have hD : va_D (wA (tu a k Y Nt Sl Mt Ch)) (tu a k Y Nt Sl Mt u1) := hD.same rfl
        exact wr_zret hz hr hlk dX3_canTune_53 hS (rfl) u1 hP (⟨rfl, g3⟩)
      · have n1 := hT.1 w
        refine lv_aload_n hz.1 hz.2.1 dX3_canTune_8 rfl (lv_at hl 0 rfl) ?_
        refine rg (T := TX3) (N := 5) hz hinX3_canTune_X3 hK hP 0 rfl rfl 3 (by decide) (List.mem_of_getElem? (i := 1) rfl) rfl (v := .ref (a 43)) rfl dX3_canTune_9 ?_
        refine lv_iconst (v := nI 0) hz.1 hz.2.1 dX3_canTune_12 (by decide) ?_
        refine rald4 hz hK hP 4 rfl (i := 0) (v := a 44) (by omega) (by decide) (if_pos (by omega)) dX3_canTune_13 ?_
        refine lv_iload_n hz.1 hz.2.1 dX3_canTune_14 rfl (lv_at hl 2 rfl) ?_
        refine lv_iload_n hz.1 hz.2.1 dX3_canTune_15 rfl (lv_at hl 1 rfl) ?_
        refine lv_iload_n hz.1 hz.2.1 dX3_canTune_16 rfl (lv_at hl 2 rfl) ?_
        refine rdSN (n := 2) (As := [.int (nI S), .int (nI w)]) (rest := [.int (nI w), .ref (a 44)]) hz (c5_has l_ S w (by omega) (by omega)) rfl gX3_canTune_X5_has_n68 rfl ⟨rfl, rfl⟩ hy (List.mem_of_getElem? (i := 6) rfl) (List.mem_of_getElem? (i := 5) rfl) (List.mem_of_getElem? (i := 4) rfl) (by decide +kernel) ⟨Nat.le_of_ble_eq_true rfl, Nat.le_of_ble_eq_true rfl⟩ rfl hl.1 rfl (Nat.le_of_ble_eq_true rfl) dX3_canTune_17 ⟨Nat.zero_le _, Nat.zero_le _⟩ ?_
        refine zeq (tgt := 29) hz dX3_canTune_20 (by decide) (fun c_20 => ?_) (fun c_20 => ?_)
        · refine lv_iconst (v := nI 1) hz.1 hz.2.1 dX3_canTune_29 (by decide) ?_
          refine lv_aload_n hz.1 hz.2.1 dX3_canTune_30 rfl (lv_at hl 0 rfl) ?_
          refine rg (T := TX3) (N := 5) hz hinX3_canTune_X3 hK hP 0 rfl rfl 0 (by decide) (List.mem_of_getElem? (i := 2) rfl) rfl (v := .ref (a 40)) rfl dX3_canTune_31 ?_
          refine lv_iload_n hz.1 hz.2.1 dX3_canTune_34 rfl (lv_at hl 2 rfl) ?_
          refine rald hz hK hP 1 0 rfl rfl (i := w) (by omega) (by decide) (v := nI (Nt w)) rfl dX3_canTune_35 ?_
          refine lv_ishl hz.1 hz.2.1 dX3_canTune_36 ?_
          refine toe (z := nI (2 ^ (Nt w))) (nI_shl1 (by omega)) ?_
          refine toe (z := nI (kCf Nt S w)) (by rw [kCf, if_neg (by rw [c_20]; decide)]) ?_
          refine rast hz hK hP hD hS 5 0 rfl rfl (i := w) (v := (kCf Nt S w)) (by omega) (by decide) dX3_canTune_37 (fun H locs hP hS => ?_)
          have hP : va_P D vwCl (tu a k Y Nt Sl Mt (gset Ch 0 (nset (ccpy (Ch 0) (kCf Nt S) w) w (kCf Nt S w)))) H := hP
          have hD : va_D (wA (tu a k Y Nt Sl Mt Ch)) (tu a k Y Nt Sl Mt (gset Ch 0 (nset (ccpy (Ch 0) (kCf Nt S) w) w (kCf Nt S w)))) := hD.same rfl
          have hP : va_P D vwCl (tu a k Y Nt Sl Mt (gset Ch 0 (ccpy (Ch 0) (kCf Nt S) (w + 1)))) H := by rw [← ccpy_s]; exact hP
          have hD : va_D (wA (tu a k Y Nt Sl Mt Ch)) (tu a k Y Nt Sl Mt (gset Ch 0 (ccpy (Ch 0) (kCf Nt S) (w + 1)))) := hD.same rfl
          refine lv_iinc (v := nI (w + 1)) (lv' := [(2, .int (nI (w + 1))), (0, .ref (a 39)), (1, .int (nI S))]) hz.1 hz.2.1 dX3_canTune_38 hl (k := 2) rfl (nI_add _ 1) (by decide) rfl (fun ls hl => ?_)
          refine lv_goto (tgt := 2) hz.1 hz.2.1 dX3_canTune_41 (by decide) ?_
          exact ih2 (w + 1) (by omega) (by omega) ls H locs hP hS (lv_sub hl [1, 2, 0] rfl)
        · refine lv_sipush (v := nI 4095) hz.1 hz.2.1 dX3_canTune_23 (by decide) ?_
          refine lv_goto (tgt := 37) hz.1 hz.2.1 dX3_canTune_26 (by decide) ?_
          refine toe (z := nI (kCf Nt S w)) (by rw [kCf, if_pos c_20]) ?_
          refine rast hz hK hP hD hS 5 0 rfl rfl (i := w) (v := (kCf Nt S w)) (by omega) (by decide) dX3_canTune_37 (fun H locs hP hS => ?_)
          have hP : va_P D vwCl (tu a k Y Nt Sl Mt (gset Ch 0 (nset (ccpy (Ch 0) (kCf Nt S) w) w (kCf Nt S w)))) H := hP
          have hD : va_D (wA (tu a k Y Nt Sl Mt Ch)) (tu a k Y Nt Sl Mt (gset Ch 0 (nset (ccpy (Ch 0) (kCf Nt S) w) w (kCf Nt S w)))) := hD.same rfl
          have hP : va_P D vwCl (tu a k Y Nt Sl Mt (gset Ch 0 (ccpy (Ch 0) (kCf Nt S) (w + 1)))) H := by rw [← ccpy_s]; exact hP
          have hD : va_D (wA (tu a k Y Nt Sl Mt Ch)) (tu a k Y Nt Sl Mt (gset Ch 0 (ccpy (Ch 0) (kCf Nt S) (w + 1)))) := hD.same rfl
          refine lv_iinc (v := nI (w + 1)) (lv' := [(2, .int (nI (w + 1))), (0, .ref (a 39)), (1, .int (nI S))]) hz.1 hz.2.1 dX3_canTune_38 hl (k := 2) rfl (nI_add _ 1) (by decide) rfl (fun ls hl => ?_)
          refine lv_goto (tgt := 2) hz.1 hz.2.1 dX3_canTune_41 (by decide) ?_
          exact ih2 (w + 1) (by omega) (by omega) ls H locs hP hS (lv_sub hl [1, 2, 0] rfl)
  have hP : va_P D vwCl (tu a k Y Nt Sl Mt (gset Ch 0 (ccpy (Ch 0) (kCf Nt S) 0))) s_.heap := by rw [ccpy_0, gset_self]; exact hP
  exact lp_2 _ 0 (by omega) (Nat.lt_succ_self _) ls _ _ hP hS (lv_sub hl [1, 2, 0] rfl)

theorem hinX3_learn_X3 : ∀ w ∈ wsX30, w ∈ wsX3_learn := fun _ h => List.mem_cons_of_mem _ (List.mem_append_left _ (List.mem_append_right _ h))
theorem hinX3_learn_X0 : ∀ w ∈ wsX00, w ∈ wsX3_learn := fun _ h => List.mem_cons_of_mem _ (List.mem_append_right _ h)
set_option maxHeartbeats 4000000 in
set_option maxRecDepth 100000 in
theorem c3_learn (l_ : Launch) (D : va_G) (k : Nat → ClassId) (a : Nat → Nat) (tS : Nat) (sk sv : Nat → Nat) (Y : Nat → Nat) (Nt : Nat → Nat) (Sl : Nat → Nat) (Mt : Nat → Nat) (Ch : Nat → Nat → Nat) (F : Nat → Nat) (E : Nat → Nat → Nat) (M : Nat → Nat)  (hR : Rb M F E) (hf : Wf M) : Met l_ yX3_learn wsX3_learn ({ frames := 4, cells := 0, slots := 0, locals := 89 }) (va_Pc [.ref (a 39), .ref (a 1)] (wH (Am tS sk sv) D k (tu a k Y Nt Sl Mt Ch ++ (bw a 1 k F E)))) (va_Qv (fun (u : Unit) => True) (fun (u : Unit) (t_ : State) => va_P D vwCl ((fun (_ : Unit) => tu a k (nset Y 0 (kSg M (M 0 - 1))) (ccpy Nt (kNb M) (M 0 - 1)) (ccpy Sl (kSk M) (M 0 - 1)) (ccpy Mt (kMts M) (M 0 - 1)) Ch ++ (bw a 1 k F E)) u) t_.heap) (wA (tu a k Y Nt Sl Mt Ch ++ (bw a 1 k F E)))) 0 0 (wA (tu a k Y Nt Sl Mt Ch ++ (bw a 1 k F E))) := by
  refine my_entry (cc := cX3_learn) (maxL := 4) (ret := none) (by decide) rfl (Nat.le_of_ble_eq_true rfl) ?_
  intro p_ e_ s_ m_ bl_ me_ c_ hz hr hlk hB ls hl
  obtain ⟨hP, hK, hD0, hy⟩ := hB
  have hD := wA.self hD0
  have hS : va_S (wA (tu a k Y Nt Sl Mt Ch ++ (bw a 1 k F E))) s_.heap s_.heap [] := va_S.rf
  have hl : lv_has ls 4 [(0, .ref (a 39)), (1, .ref (a 1))] := hl
  have f0 := hf.n2
  have f1 := hf.n9
  have f2 := hf.fr
  have f3 := hf.gd
  have f4 := hf.pc
  have f5 := hf.wc
  refine lv_aload_n hz.1 hz.2.1 dX3_learn_0 rfl (lv_at hl 0 rfl) ?_
  refine lv_iconst (v := nI 0) hz.1 hz.2.1 dX3_learn_1 (by decide) ?_
  refine rput (v := .int (nI 0)) (ty := .int) (T := TX3) (N := 5) hz hinX3_learn_X3 tyX3 tyX3_ok nmX3 hK hP hD hS 0 rfl rfl 4 (by decide) (List.mem_of_getElem? (i := 1) rfl) rfl rfl (by decide +kernel) rfl rfl (Nat.le_of_ble_eq_true rfl) dX3_learn_2 (fun H locs hP hS => ?_)
  have hP : va_P D vwCl (tu a k (nset Y 0 0) Nt Sl Mt Ch ++ (bw a 1 k F E)) H := hP
  have hD : va_D (wA (tu a k Y Nt Sl Mt Ch ++ (bw a 1 k F E))) (tu a k (nset Y 0 0) Nt Sl Mt Ch ++ (bw a 1 k F E)) := hD.same rfl
  refine lv_iconst (v := nI 0) hz.1 hz.2.1 dX3_learn_5 (by decide) ?_
  refine lv_istore_n (lv' := [(2, .int (nI 0)), (0, .ref (a 39)), (1, .ref (a 1))]) hz.1 hz.2.1 dX3_learn_6 rfl hl (by decide) rfl (fun ls hl => ?_)
  have lp_7 : ∀ (fu : Nat) (w : Nat), (w ≤ M 0 - 1) → M 0 - 1 - w < fu → ∀ ls : Array Slot, ∀ (H : Heap) (locs : List Loc), va_P D vwCl (tu a k (nset Y 0 (kSg M w)) (ccpy Nt (kNb M) w) (ccpy Sl (kSk M) w) (ccpy Mt (kMts M) w) Ch ++ (bw a 1 k F E)) H → va_S (wA (tu a k Y Nt Sl Mt Ch ++ (bw a 1 k F E))) s_.heap H locs → lv_has ls 4 [(0, .ref (a 39)), (1, .ref (a 1)), (2, .int (nI w))] → W p_ l_ e_ ({ frames := 4, cells := 0, slots := 0, locals := 89 }) s_ m_ [.ref (a 39), .ref (a 1)].toArray bl_ me_ c_ H locs 0 0 (MQ bl_ (va_Qv (fun (u : Unit) => True) (fun (u : Unit) (t_ : State) => va_P D vwCl ((fun (_ : Unit) => tu a k (nset Y 0 (kSg M (M 0 - 1))) (ccpy Nt (kNb M) (M 0 - 1)) (ccpy Sl (kSk M) (M 0 - 1)) (ccpy Mt (kMts M) (M 0 - 1)) Ch ++ (bw a 1 k F E)) u) t_.heap) (wA (tu a k Y Nt Sl Mt Ch ++ (bw a 1 k F E)))) [.ref (a 39), .ref (a 1)].toArray s_ 0 0 (wA (tu a k Y Nt Sl Mt Ch ++ (bw a 1 k F E)))) (F0 m_ 7 ls []) := by
    intro fu
    induction fu with
    | zero => intro w hw hm; exact absurd hm (Nat.not_lt_zero _)
    | succ fu ih7 =>
      intro w hw hm ls H locs hP hS hl
      have hD : va_D (wA (tu a k Y Nt Sl Mt Ch ++ (bw a 1 k F E))) (tu a k (nset Y 0 (kSg M w)) (ccpy Nt (kNb M) w) (ccpy Sl (kSk M) w) (ccpy Mt (kMts M) w) Ch ++ (bw a 1 k F E)) := hD.same rfl
      refine lv_iload_n hz.1 hz.2.1 dX3_learn_7 rfl (lv_at hl 2 rfl) ?_
      refine lv_aload_n hz.1 hz.2.1 dX3_learn_8 rfl (lv_at hl 1 rfl) ?_
      refine rdV (A := wA (tu a k Y Nt Sl Mt Ch ++ (bw a 1 k F E))) (As := []) (rest := [.int (nI w)]) hz (okAm tS sk sv) (c0_wireCount l_ D k a 1 tS sk sv F E M  hR hf) (cwV 0 hz.2.2.2.2 gX3_learn_X0_wireCount rfl rfl rfl (by decide +kernel) ⟨Nat.le_of_ble_eq_true rfl, Nat.le_of_ble_eq_true rfl⟩) hK hy (hP.sub (ws' := bw a 1 k F E) [14, 15, 16, 17, 18, 19, 20, 21] rfl) (hD.sub (ws' := bw a 1 k F E) [14, 15, 16, 17, 18, 19, 20, 21] (by decide) rfl) hS 0 0 rfl rfl rfl rfl hl.1 rfl (Nat.le_of_ble_eq_true rfl) dX3_learn_9 ⟨Nat.zero_le _, Nat.zero_le _⟩ ?_
      refine jge (tgt := 133) hz dX3_learn_12 (by decide) (by omega) (by omega) (fun c_12 => ?_) (fun c_12 => ?_)
      · obtain rfl : w = M 0 - 1 := by omega
        exact wr_vret hz hr hlk dX3_learn_133 hS (()) hP (trivial)
      · have k1 := hf.kd (w := w) (by omega)
        have t1 := hf.tn (w := w) (by omega)
        have g1 := kSg_lt (M := M) (n := w) (by omega)
        have jn_35 : ∀ (_ : Unit), ∀ ls : Array Slot, ∀ (H : Heap) (locs : List Loc), va_P D vwCl (tu a k (nset Y 0 (kSg M (w + 1))) (ccpy Nt (kNb M) w) (ccpy Sl (kSk M) w) (ccpy Mt (kMts M) w) Ch ++ (bw a 1 k F E)) H → va_S (wA (tu a k Y Nt Sl Mt Ch ++ (bw a 1 k F E))) s_.heap H locs → lv_has ls 4 [(0, .ref (a 39)), (1, .ref (a 1)), (2, .int (nI w))] → W p_ l_ e_ ({ frames := 4, cells := 0, slots := 0, locals := 89 }) s_ m_ [.ref (a 39), .ref (a 1)].toArray bl_ me_ c_ H locs 0 0 (MQ bl_ (va_Qv (fun (u : Unit) => True) (fun (u : Unit) (t_ : State) => va_P D vwCl ((fun (_ : Unit) => tu a k (nset Y 0 (kSg M (M 0 - 1))) (ccpy Nt (kNb M) (M 0 - 1)) (ccpy Sl (kSk M) (M 0 - 1)) (ccpy Mt (kMts M) (M 0 - 1)) Ch ++ (bw a 1 k F E)) u) t_.heap) (wA (tu a k Y Nt Sl Mt Ch ++ (bw a 1 k F E)))) [.ref (a 39), .ref (a 1)].toArray s_ 0 0 (wA (tu a k Y Nt Sl Mt Ch ++ (bw a 1 k F E)))) (F0 m_ 35 ls []) := by
          intro _  ls H locs hP hS hl
          have hD : va_D (wA (tu a k Y Nt Sl Mt Ch ++ (bw a 1 k F E))) (tu a k (nset Y 0 (kSg M (w + 1))) (ccpy Nt (kNb M) w) (ccpy Sl (kSk M) w) (ccpy Mt (kMts M) w) Ch ++ (bw a 1 k F E)) := hD.same rfl
          refine lv_aload_n hz.1 hz.2.1 dX3_learn_35 rfl (lv_at hl 0 rfl) ?_
          refine rg (T := TX3) (N := 5) hz hinX3_learn_X3 hK hP 0 rfl rfl 0 (by decide) (List.mem_of_getElem? (i := 2) rfl) rfl (v := .ref (a 40)) rfl dX3_learn_36 ?_
          refine lv_iload_n hz.1 hz.2.1 dX3_learn_39 rfl (lv_at hl 2 rfl) ?_
          refine lv_aload_n hz.1 hz.2.1 dX3_learn_40 rfl (lv_at hl 1 rfl) ?_
          refine rg (T := TX0) (N := 12) hz hinX3_learn_X0 hK hP 14 rfl rfl 5 (by decide) (List.mem_of_getElem? (i := 3) rfl) rfl (v := .ref (a 2)) rfl dX3_learn_41 ?_
          refine lv_iload_n hz.1 hz.2.1 dX3_learn_44 rfl (lv_at hl 2 rfl) ?_
          refine rald hz hK hP 15 0 rfl rfl (i := w) (by omega) (by decide) (v := nI (E 0 w)) rfl dX3_learn_45 ?_
          refine toe (z := nI (M (3 + w))) (by rw [(hR.2.1 _ (by omega)).1]) ?_
          refine lv_aload_n hz.1 hz.2.1 dX3_learn_46 rfl (lv_at hl 1 rfl) ?_
          refine rg (T := TX0) (N := 12) hz hinX3_learn_X0 hK hP 14 rfl rfl 6 (by decide) (List.mem_of_getElem? (i := 4) rfl) rfl (v := .ref (a 3)) rfl dX3_learn_47 ?_
          refine lv_iload_n hz.1 hz.2.1 dX3_learn_50 rfl (lv_at hl 2 rfl) ?_
          refine rald hz hK hP 16 0 rfl rfl (i := w) (by omega) (by decide) (v := nI (E 1 w)) rfl dX3_learn_51 ?_
          refine toe (z := nI (M (11 + w))) (by rw [(hR.2.1 _ (by omega)).2]) ?_
          refine lv_iconst (v := nI 0) hz.1 hz.2.1 dX3_learn_52 (by decide) ?_
          refine rdSN (n := 3) (As := [.int (nI (M (3 + w))), .int (nI (M (11 + w))), .int (nI 0)]) (rest := [.int (nI w), .ref (a 40)]) hz (c5_noteBy l_ (M (3 + w)) (M (11 + w)) 0 (by omega) (by omega) (by omega)) rfl gX3_learn_X5_noteBy_n60 rfl ⟨rfl, rfl⟩ hy (List.mem_of_getElem? (i := 5) rfl) (List.mem_of_getElem? (i := 19) rfl) (List.mem_of_getElem? (i := 18) rfl) (by decide +kernel) ⟨Nat.le_of_ble_eq_true rfl, Nat.le_of_ble_eq_true rfl⟩ rfl hl.1 rfl (Nat.le_of_ble_eq_true rfl) dX3_learn_53 ⟨Nat.zero_le _, Nat.zero_le _⟩ ?_
          refine rast hz hK hP hD hS 1 0 rfl rfl (i := w) (v := (sNoteBy (M (3 + w)) (M (11 + w)) 0)) (by omega) (by decide) dX3_learn_56 (fun H locs hP hS => ?_)
          have hP : va_P D vwCl (tu a k (nset Y 0 (kSg M (w + 1))) (nset (ccpy Nt (kNb M) w) w (sNoteBy (M (3 + w)) (M (11 + w)) 0)) (ccpy Sl (kSk M) w) (ccpy Mt (kMts M) w) Ch ++ (bw a 1 k F E)) H := hP
          have hD : va_D (wA (tu a k Y Nt Sl Mt Ch ++ (bw a 1 k F E))) (tu a k (nset Y 0 (kSg M (w + 1))) (nset (ccpy Nt (kNb M) w) w (sNoteBy (M (3 + w)) (M (11 + w)) 0)) (ccpy Sl (kSk M) w) (ccpy Mt (kMts M) w) Ch ++ (bw a 1 k F E)) := hD.same rfl
          have hP : va_P D vwCl (tu a k (nset Y 0 (kSg M (w + 1))) (ccpy Nt (kNb M) (w + 1)) (ccpy Sl (kSk M) w) (ccpy Mt (kMts M) w) Ch ++ (bw a 1 k F E)) H := by rw [← ccpy_s]; exact hP
          have hD : va_D (wA (tu a k Y Nt Sl Mt Ch ++ (bw a 1 k F E))) (tu a k (nset Y 0 (kSg M (w + 1))) (ccpy Nt (kNb M) (w + 1)) (ccpy Sl (kSk M) w) (ccpy Mt (kMts M) w) Ch ++ (bw a 1 k F E)) := hD.same rfl
          refine lv_aload_n hz.1 hz.2.1 dX3_learn_57 rfl (lv_at hl 0 rfl) ?_
          refine rg (T := TX3) (N := 5) hz hinX3_learn_X3 hK hP 0 rfl rfl 1 (by decide) (List.mem_of_getElem? (i := 5) rfl) rfl (v := .ref (a 41)) rfl dX3_learn_58 ?_
          refine lv_iload_n hz.1 hz.2.1 dX3_learn_61 rfl (lv_at hl 2 rfl) ?_
          refine lv_aload_n hz.1 hz.2.1 dX3_learn_62 rfl (lv_at hl 1 rfl) ?_
          refine rg (T := TX0) (N := 12) hz hinX3_learn_X0 hK hP 14 rfl rfl 5 (by decide) (List.mem_of_getElem? (i := 3) rfl) rfl (v := .ref (a 2)) rfl dX3_learn_63 ?_
          refine lv_iload_n hz.1 hz.2.1 dX3_learn_66 rfl (lv_at hl 2 rfl) ?_
          refine rald hz hK hP 15 0 rfl rfl (i := w) (by omega) (by decide) (v := nI (E 0 w)) rfl dX3_learn_67 ?_
          refine toe (z := nI (M (3 + w))) (by rw [(hR.2.1 _ (by omega)).1]) ?_
          refine lv_iconst (v := nI 3) hz.1 hz.2.1 dX3_learn_68 (by decide) ?_
          have jn_77 : ∀ (_ : Unit), ∀ ls : Array Slot, lv_has ls 4 [(0, .ref (a 39)), (1, .ref (a 1)), (2, .int (nI w))] → W p_ l_ e_ ({ frames := 4, cells := 0, slots := 0, locals := 89 }) s_ m_ [.ref (a 39), .ref (a 1)].toArray bl_ me_ c_ H locs 0 0 (MQ bl_ (va_Qv (fun (u : Unit) => True) (fun (u : Unit) (t_ : State) => va_P D vwCl ((fun (_ : Unit) => tu a k (nset Y 0 (kSg M (M 0 - 1))) (ccpy Nt (kNb M) (M 0 - 1)) (ccpy Sl (kSk M) (M 0 - 1)) (ccpy Mt (kMts M) (M 0 - 1)) Ch ++ (bw a 1 k F E)) u) t_.heap) (wA (tu a k Y Nt Sl Mt Ch ++ (bw a 1 k F E)))) [.ref (a 39), .ref (a 1)].toArray s_ 0 0 (wA (tu a k Y Nt Sl Mt Ch ++ (bw a 1 k F E)))) (F0 m_ 77 ls [.int (nI (kSk M w)), .int (nI w), .ref (a 41)]) := by
            intro _  ls hl
            refine rzast hz hK hP hD hS 2 2 rfl rfl (i := w) (v := (kSk M w)) (by omega) (by decide) (nar_lt2 (kSk_lt M w)) dX3_learn_77 (fun H locs hP hS => ?_)
            have hP : va_P D vwCl (tu a k (nset Y 0 (kSg M (w + 1))) (ccpy Nt (kNb M) (w + 1)) (nset (ccpy Sl (kSk M) w) w (kSk M w)) (ccpy Mt (kMts M) w) Ch ++ (bw a 1 k F E)) H := hP
            have hD : va_D (wA (tu a k Y Nt Sl Mt Ch ++ (bw a 1 k F E))) (tu a k (nset Y 0 (kSg M (w + 1))) (ccpy Nt (kNb M) (w + 1)) (nset (ccpy Sl (kSk M) w) w (kSk M w)) (ccpy Mt (kMts M) w) Ch ++ (bw a 1 k F E)) := hD.same rfl
            have hP : va_P D vwCl (tu a k (nset Y 0 (kSg M (w + 1))) (ccpy Nt (kNb M) (w + 1)) (ccpy Sl (kSk M) (w + 1)) (ccpy Mt (kMts M) w) Ch ++ (bw a 1 k F E)) H := by rw [← ccpy_s Sl]; exact hP
            have hD : va_D (wA (tu a k Y Nt Sl Mt Ch ++ (bw a 1 k F E))) (tu a k (nset Y 0 (kSg M (w + 1))) (ccpy Nt (kNb M) (w + 1)) (ccpy Sl (kSk M) (w + 1)) (ccpy Mt (kMts M) w) Ch ++ (bw a 1 k F E)) := hD.same rfl
            refine lv_aload_n hz.1 hz.2.1 dX3_learn_78 rfl (lv_at hl 0 rfl) ?_
            refine rg (T := TX3) (N := 5) hz hinX3_learn_X3 hK hP 0 rfl rfl 2 (by decide) (List.mem_of_getElem? (i := 6) rfl) rfl (v := .ref (a 42)) rfl dX3_learn_79 ?_
            refine lv_iload_n hz.1 hz.2.1 dX3_learn_82 rfl (lv_at hl 2 rfl) ?_
            refine lv_iconst (v := nI 0) hz.1 hz.2.1 dX3_learn_83 (by decide) ?_
            refine rast hz hK hP hD hS 3 0 rfl rfl (i := w) (v := 0) (by omega) (by decide) dX3_learn_84 (fun H locs hP hS => ?_)
            have hP : va_P D vwCl (tu a k (nset Y 0 (kSg M (w + 1))) (ccpy Nt (kNb M) (w + 1)) (ccpy Sl (kSk M) (w + 1)) (nset (ccpy Mt (kMts M) w) w 0) Ch ++ (bw a 1 k F E)) H := hP
            have hD : va_D (wA (tu a k Y Nt Sl Mt Ch ++ (bw a 1 k F E))) (tu a k (nset Y 0 (kSg M (w + 1))) (ccpy Nt (kNb M) (w + 1)) (ccpy Sl (kSk M) (w + 1)) (nset (ccpy Mt (kMts M) w) w 0) Ch ++ (bw a 1 k F E)) := hD.same rfl
            refine lv_iconst (v := nI 0) hz.1 hz.2.1 dX3_learn_85 (by decide) ?_
            refine lv_istore_n (lv' := [(3, .int (nI 0)), (0, .ref (a 39)), (1, .ref (a 1)), (2, .int (nI w))]) hz.1 hz.2.1 dX3_learn_86 rfl hl (by decide) rfl (fun ls hl => ?_)
            have lp_87 : ∀ (fu : Nat) (v : Nat), (v ≤ M 0 - 1) → M 0 - 1 - v < fu → ∀ ls : Array Slot, ∀ (H : Heap) (locs : List Loc), va_P D vwCl (tu a k (nset Y 0 (kSg M (w + 1))) (ccpy Nt (kNb M) (w + 1)) (ccpy Sl (kSk M) (w + 1)) (nset (ccpy Mt (kMts M) w) w (kMt M w v)) Ch ++ (bw a 1 k F E)) H → va_S (wA (tu a k Y Nt Sl Mt Ch ++ (bw a 1 k F E))) s_.heap H locs → lv_has ls 4 [(0, .ref (a 39)), (1, .ref (a 1)), (2, .int (nI w)), (3, .int (nI v))] → W p_ l_ e_ ({ frames := 4, cells := 0, slots := 0, locals := 89 }) s_ m_ [.ref (a 39), .ref (a 1)].toArray bl_ me_ c_ H locs 0 0 (MQ bl_ (va_Qv (fun (u : Unit) => True) (fun (u : Unit) (t_ : State) => va_P D vwCl ((fun (_ : Unit) => tu a k (nset Y 0 (kSg M (M 0 - 1))) (ccpy Nt (kNb M) (M 0 - 1)) (ccpy Sl (kSk M) (M 0 - 1)) (ccpy Mt (kMts M) (M 0 - 1)) Ch ++ (bw a 1 k F E)) u) t_.heap) (wA (tu a k Y Nt Sl Mt Ch ++ (bw a 1 k F E)))) [.ref (a 39), .ref (a 1)].toArray s_ 0 0 (wA (tu a k Y Nt Sl Mt Ch ++ (bw a 1 k F E)))) (F0 m_ 87 ls []) := by
              intro fu
              induction fu with
              | zero => intro v hv hm; exact absurd hm (Nat.not_lt_zero _)
              | succ fu ih87 =>
                intro v hv hm ls H locs hP hS hl
                have hD : va_D (wA (tu a k Y Nt Sl Mt Ch ++ (bw a 1 k F E))) (tu a k (nset Y 0 (kSg M (w + 1))) (ccpy Nt (kNb M) (w + 1)) (ccpy Sl (kSk M) (w + 1)) (nset (ccpy Mt (kMts M) w) w (kMt M w v)) Ch ++ (bw a 1 k F E)) := hD.same rfl
                refine lv_iload_n hz.1 hz.2.1 dX3_learn_87 rfl (lv_at hl 3 rfl) ?_
                refine lv_aload_n hz.1 hz.2.1 dX3_learn_88 rfl (lv_at hl 1 rfl) ?_
                refine rdV (A := wA (tu a k Y Nt Sl Mt Ch ++ (bw a 1 k F E))) (As := []) (rest := [.int (nI v)]) hz (okAm tS sk sv) (c0_wireCount l_ D k a 1 tS sk sv F E M  hR hf) (cwV 0 hz.2.2.2.2 gX3_learn_X0_wireCount rfl rfl rfl (by decide +kernel) ⟨Nat.le_of_ble_eq_true rfl, Nat.le_of_ble_eq_true rfl⟩) hK hy (hP.sub (ws' := bw a 1 k F E) [14, 15, 16, 17, 18, 19, 20, 21] rfl) (hD.sub (ws' := bw a 1 k F E) [14, 15, 16, 17, 18, 19, 20, 21] (by decide) rfl) hS 0 0 rfl rfl rfl rfl hl.1 rfl (Nat.le_of_ble_eq_true rfl) dX3_learn_89 ⟨Nat.zero_le _, Nat.zero_le _⟩ ?_
                refine jge (tgt := 127) hz dX3_learn_92 (by decide) (by omega) (by omega) (fun c_92 => ?_) (fun c_92 => ?_)
                · obtain rfl : v = M 0 - 1 := by omega
                  refine lv_iinc (v := nI (w + 1)) (lv' := [(2, .int (nI (w + 1))), (0, .ref (a 39)), (1, .ref (a 1)), (3, .int (nI (M 0 - 1)))]) hz.1 hz.2.1 dX3_learn_127 hl (k := 2) rfl (nI_add _ 1) (by decide) rfl (fun ls hl => ?_)
                  refine lv_goto (tgt := 7) hz.1 hz.2.1 dX3_learn_130 (by decide) ?_
                  have hP : va_P D vwCl (tu a k (nset Y 0 (kSg M (w + 1))) (ccpy Nt (kNb M) (w + 1)) (ccpy Sl (kSk M) (w + 1)) (ccpy Mt (kMts M) (w + 1)) Ch ++ (bw a 1 k F E)) H := by rw [← ccpy_s Mt (kMts M)]; exact hP
                  exact ih7 (w + 1) (by omega) (by omega) ls H locs hP hS (lv_sub hl [1, 2, 0] rfl)
                · have m1 := kMt_lt (M := M) (w := w) (n := v) (by omega)
                  refine lv_iload_n hz.1 hz.2.1 dX3_learn_95 rfl (lv_at hl 3 rfl) ?_
                  refine lv_iload_n hz.1 hz.2.1 dX3_learn_96 rfl (lv_at hl 2 rfl) ?_
                  refine jeq (tgt := 121) hz dX3_learn_97 (by decide) (by omega) (by omega) (fun c_97 => ?_) (fun c_97 => ?_)
                  · refine lv_iinc (v := nI (v + 1)) (lv' := [(3, .int (nI (v + 1))), (0, .ref (a 39)), (1, .ref (a 1)), (2, .int (nI w))]) hz.1 hz.2.1 dX3_learn_121 hl (k := 3) rfl (nI_add _ 1) (by decide) rfl (fun ls hl => ?_)
                    refine lv_goto (tgt := 87) hz.1 hz.2.1 dX3_learn_124 (by decide) ?_
                    have g0 : kMt M w (v + 1) = kMt M w v := by rw [kMt_s, c_97, nr_same]; exact Nat.or_zero _
                    have hP : va_P D vwCl (tu a k (nset Y 0 (kSg M (w + 1))) (ccpy Nt (kNb M) (w + 1)) (ccpy Sl (kSk M) (w + 1)) (nset (ccpy Mt (kMts M) w) w (kMt M w (v + 1))) Ch ++ (bw a 1 k F E)) H := by rw [g0]; exact hP
                    exact ih87 (v + 1) (by omega) (by omega) ls H locs hP hS (lv_sub hl [1, 2, 3, 0] rfl)
                  · refine lv_aload_n hz.1 hz.2.1 dX3_learn_100 rfl (lv_at hl 1 rfl) ?_
                    refine lv_iload_n hz.1 hz.2.1 dX3_learn_101 rfl (lv_at hl 3 rfl) ?_
                    refine lv_iload_n hz.1 hz.2.1 dX3_learn_102 rfl (lv_at hl 2 rfl) ?_
                    refine rdV (A := wA (tu a k Y Nt Sl Mt Ch ++ (bw a 1 k F E))) (As := [.int (nI v), .int (nI w)]) (rest := []) hz (okAm tS sk sv) (c0_meet l_ D k a 1 tS sk sv F E M v w hR hf (by omega) (by omega)) (cwV 2 hz.2.2.2.2 gX3_learn_X0_meet rfl rfl rfl (by decide +kernel) ⟨Nat.le_of_ble_eq_true rfl, Nat.le_of_ble_eq_true rfl⟩) hK hy (hP.sub (ws' := bw a 1 k F E) [14, 15, 16, 17, 18, 19, 20, 21] rfl) (hD.sub (ws' := bw a 1 k F E) [14, 15, 16, 17, 18, 19, 20, 21] (by decide) rfl) hS 0 0 rfl rfl rfl rfl hl.1 rfl (Nat.le_of_ble_eq_true rfl) dX3_learn_103 ⟨Nat.zero_le _, Nat.zero_le _⟩ ?_
                    refine zeq (tgt := 121) hz dX3_learn_106 (by decide) (fun c_106 => ?_) (fun c_106 => ?_)
                    · refine lv_iinc (v := nI (v + 1)) (lv' := [(3, .int (nI (v + 1))), (0, .ref (a 39)), (1, .ref (a 1)), (2, .int (nI w))]) hz.1 hz.2.1 dX3_learn_121 hl (k := 3) rfl (nI_add _ 1) (by decide) rfl (fun ls hl => ?_)
                      refine lv_goto (tgt := 87) hz.1 hz.2.1 dX3_learn_124 (by decide) ?_
                      have g0 : kMt M w (v + 1) = kMt M w v := by rw [kMt_s, nr_meet hf c_92 c_12 c_97, c_106]; exact Nat.or_zero _
                      have hP : va_P D vwCl (tu a k (nset Y 0 (kSg M (w + 1))) (ccpy Nt (kNb M) (w + 1)) (ccpy Sl (kSk M) (w + 1)) (nset (ccpy Mt (kMts M) w) w (kMt M w (v + 1))) Ch ++ (bw a 1 k F E)) H := by rw [g0]; exact hP
                      exact ih87 (v + 1) (by omega) (by omega) ls H locs hP hS (lv_sub hl [1, 2, 3, 0] rfl)
                    · refine lv_aload_n hz.1 hz.2.1 dX3_learn_109 rfl (lv_at hl 0 rfl) ?_
                      refine rg (T := TX3) (N := 5) hz hinX3_learn_X3 hK hP 0 rfl rfl 2 (by decide) (List.mem_of_getElem? (i := 6) rfl) rfl (v := .ref (a 42)) rfl dX3_learn_110 ?_
                      refine lv_iload_n hz.1 hz.2.1 dX3_learn_113 rfl (lv_at hl 2 rfl) ?_
                      refine lv_dup2_11 hz.1 hz.2.1 dX3_learn_114 rfl rfl ?_
                      refine rald hz hK hP 3 0 rfl rfl (i := w) (by omega) (by decide) (v := nI ((nset (ccpy Mt (kMts M) w) w (kMt M w v)) w)) rfl dX3_learn_115 ?_
                      refine toe (z := nI (kMt M w v)) (by rw [nset_same]) ?_
                      refine lv_iconst (v := nI 1) hz.1 hz.2.1 dX3_learn_116 (by decide) ?_
                      refine lv_iload_n hz.1 hz.2.1 dX3_learn_117 rfl (lv_at hl 3 rfl) ?_
                      refine lv_ishl hz.1 hz.2.1 dX3_learn_118 ?_
                      refine toe (z := nI (2 ^ v)) (nI_shl1 (by omega)) ?_
                      refine lv_ior hz.1 hz.2.1 dX3_learn_119 ?_
                      refine toe (z := nI (kMt M w (v + 1))) (by rw [fa_or, kMt_s, nr_meet hf c_92 c_12 c_97, c_106]; rfl) ?_
                      refine rast hz hK hP hD hS 3 0 rfl rfl (i := w) (v := (kMt M w (v + 1))) (by omega) (by decide) dX3_learn_120 (fun H locs hP hS => ?_)
                      have hP : va_P D vwCl (tu a k (nset Y 0 (kSg M (w + 1))) (ccpy Nt (kNb M) (w + 1)) (ccpy Sl (kSk M) (w + 1)) (nset (nset (ccpy Mt (kMts M) w) w (kMt M w v)) w (kMt M w (v + 1))) Ch ++ (bw a 1 k F E)) H := hP
                      have hD : va_D (wA (tu a k Y Nt Sl Mt Ch ++ (bw a 1 k F E))) (tu a k (nset Y 0 (kSg M (w + 1))) (ccpy Nt (kNb M) (w + 1)) (ccpy Sl (kSk M) (w + 1)) (nset (nset (ccpy Mt (kMts M) w) w (kMt M w v)) w (kMt M w (v + 1))) Ch ++ (bw a 1 k F E)) := hD.same rfl
                      have hP : va_P D vwCl (tu a k (nset Y 0 (kSg M (w + 1))) (ccpy Nt (kNb M) (w + 1)) (ccpy Sl (kSk M) (w + 1)) (nset (ccpy Mt (kMts M) w) w (kMt M w (v + 1))) Ch ++ (bw a 1 k F E)) H := by rw [nset_twice] at hP; exact hP
                      have hD : va_D (wA (tu a k Y Nt Sl Mt Ch ++ (bw a 1 k F E))) (tu a k (nset Y 0 (kSg M (w + 1))) (ccpy Nt (kNb M) (w + 1)) (ccpy Sl (kSk M) (w + 1)) (nset (ccpy Mt (kMts M) w) w (kMt M w (v + 1))) Ch ++ (bw a 1 k F E)) := hD.same rfl
                      refine lv_iinc (v := nI (v + 1)) (lv' := [(3, .int (nI (v + 1))), (0, .ref (a 39)), (1, .ref (a 1)), (2, .int (nI w))]) hz.1 hz.2.1 dX3_learn_121 hl (k := 3) rfl (nI_add _ 1) (by decide) rfl (fun ls hl => ?_)
                      refine lv_goto (tgt := 87) hz.1 hz.2.1 dX3_learn_124 (by decide) ?_
                      exact ih87 (v + 1) (by omega) (by omega) ls H locs hP hS (lv_sub hl [1, 2, 3, 0] rfl)
            have hP : va_P D vwCl (tu a k (nset Y 0 (kSg M (w + 1))) (ccpy Nt (kNb M) (w + 1)) (ccpy Sl (kSk M) (w + 1)) (nset (ccpy Mt (kMts M) w) w (kMt M w 0)) Ch ++ (bw a 1 k F E)) H := hP
            exact lp_87 _ 0 (by omega) (Nat.lt_succ_self _) ls _ _ hP hS (lv_sub hl [1, 2, 3, 0] rfl)
          refine jne (tgt := 76) hz dX3_learn_69 (by decide) (by omega) (by omega) (fun c_69 => ?_) (fun c_69 => ?_)
          · refine lv_iconst (v := nI 0) hz.1 hz.2.1 dX3_learn_76 (by decide) ?_
            refine toe (z := nI (kSk M w)) (by rw [kSk, if_neg c_69]) ?_
            exact jn_77 (())  ls (lv_sub hl [0, 1, 2] rfl)
          · refine lv_iconst (v := nI 1) hz.1 hz.2.1 dX3_learn_72 (by decide) ?_
            refine lv_goto (tgt := 77) hz.1 hz.2.1 dX3_learn_73 (by decide) ?_
            refine toe (z := nI (kSk M w)) (by rw [kSk, if_pos c_69]) ?_
            exact jn_77 (())  ls (lv_sub hl [0, 1, 2] rfl)
        refine lv_aload_n hz.1 hz.2.1 dX3_learn_15 rfl (lv_at hl 1 rfl) ?_
        refine lv_iload_n hz.1 hz.2.1 dX3_learn_16 rfl (lv_at hl 2 rfl) ?_
        refine rdV (A := wA (tu a k Y Nt Sl Mt Ch ++ (bw a 1 k F E))) (As := [.int (nI w)]) (rest := []) hz (okAm tS sk sv) (c0_isCut l_ D k a 1 tS sk sv F E M w hR hf (by omega)) (cwV 1 hz.2.2.2.2 gX3_learn_X0_isCut rfl rfl rfl (by decide +kernel) ⟨Nat.le_of_ble_eq_true rfl, Nat.le_of_ble_eq_true rfl⟩) hK hy (hP.sub (ws' := bw a 1 k F E) [14, 15, 16, 17, 18, 19, 20, 21] rfl) (hD.sub (ws' := bw a 1 k F E) [14, 15, 16, 17, 18, 19, 20, 21] (by decide) rfl) hS 0 0 rfl rfl rfl rfl hl.1 rfl (Nat.le_of_ble_eq_true rfl) dX3_learn_17 ⟨Nat.zero_le _, Nat.zero_le _⟩ ?_
        refine zne (tgt := 35) hz dX3_learn_20 (by decide) (fun c_20 => ?_) (fun c_20 => ?_)
        · have g0 : kSg M (w + 1) = kSg M w := by rw [kSg_s, c_20]; exact Nat.or_zero _
          have hP : va_P D vwCl (tu a k (nset Y 0 (kSg M (w + 1))) (ccpy Nt (kNb M) w) (ccpy Sl (kSk M) w) (ccpy Mt (kMts M) w) Ch ++ (bw a 1 k F E)) H := by rw [g0]; exact hP
          exact jn_35 (())  ls _ _ hP hS (lv_sub hl [0, 1, 2] rfl)
        · refine lv_aload_n hz.1 hz.2.1 dX3_learn_23 rfl (lv_at hl 0 rfl) ?_
          refine lv_dup hz.1 hz.2.1 dX3_learn_24 rfl ?_
          refine rg (T := TX3) (N := 5) hz hinX3_learn_X3 hK hP 0 rfl rfl 4 (by decide) (List.mem_of_getElem? (i := 1) rfl) rfl (v := .int (nI (kSg M w))) rfl dX3_learn_25 ?_
          refine lv_iconst (v := nI 1) hz.1 hz.2.1 dX3_learn_28 (by decide) ?_
          refine lv_iload_n hz.1 hz.2.1 dX3_learn_29 rfl (lv_at hl 2 rfl) ?_
          refine lv_ishl hz.1 hz.2.1 dX3_learn_30 ?_
          refine toe (z := nI (2 ^ w)) (nI_shl1 (by omega)) ?_
          refine lv_ior hz.1 hz.2.1 dX3_learn_31 ?_
          refine toe (z := nI ((kSg M w) ||| (2 ^ w))) (fa_or _ _) ?_
          refine rput (v := .int (nI ((kSg M w) ||| (2 ^ w)))) (ty := .int) (T := TX3) (N := 5) hz hinX3_learn_X3 tyX3 tyX3_ok nmX3 hK hP hD hS 0 rfl rfl 4 (by decide) (List.mem_of_getElem? (i := 1) rfl) rfl rfl (by decide +kernel) rfl rfl (Nat.le_of_ble_eq_true rfl) dX3_learn_32 (fun H locs hP hS => ?_)
          have hP : va_P D vwCl (tu a k (nset Y 0 ((kSg M w) ||| (2 ^ w))) (ccpy Nt (kNb M) w) (ccpy Sl (kSk M) w) (ccpy Mt (kMts M) w) Ch ++ (bw a 1 k F E)) H := hP
          have hD : va_D (wA (tu a k Y Nt Sl Mt Ch ++ (bw a 1 k F E))) (tu a k (nset Y 0 ((kSg M w) ||| (2 ^ w))) (ccpy Nt (kNb M) w) (ccpy Sl (kSk M) w) (ccpy Mt (kMts M) w) Ch ++ (bw a 1 k F E)) := hD.same rfl
          have hP : va_P D vwCl (tu a k (nset Y 0 (kSg M (w + 1))) (ccpy Nt (kNb M) w) (ccpy Sl (kSk M) w) (ccpy Mt (kMts M) w) Ch ++ (bw a 1 k F E)) H := by rw [kSg_s, c_20]; exact hP
          exact jn_35 (())  ls _ _ hP hS (lv_sub hl [0, 1, 2] rfl)
  have hP : va_P D vwCl (tu a k (nset Y 0 (kSg M 0)) (ccpy Nt (kNb M) 0) (ccpy Sl (kSk M) 0) (ccpy Mt (kMts M) 0) Ch ++ (bw a 1 k F E)) H := by rw [ccpy_0, ccpy_0, ccpy_0]; exact hP
  exact lp_7 _ 0 (by omega) (Nat.lt_succ_self _) ls _ _ hP hS (lv_sub hl [1, 2, 0] rfl)

theorem hinX3_fewestWires_X3 : ∀ w ∈ wsX30, w ∈ wsX3_fewestWires := fun _ h => List.mem_cons_of_mem _ (List.mem_append_left _ (List.mem_append_right _ h))
theorem hinX3_fewestWires_X0 : ∀ w ∈ wsX00, w ∈ wsX3_fewestWires := fun _ h => List.mem_cons_of_mem _ (List.mem_append_right _ h)
set_option maxHeartbeats 4000000 in
set_option maxRecDepth 100000 in
theorem c3_fewestWires (l_ : Launch) (D : va_G) (k : Nat → ClassId) (a : Nat → Nat) (tS : Nat) (sk sv : Nat → Nat) (Y : Nat → Nat) (Nt : Nat → Nat) (Sl : Nat → Nat) (Mt : Nat → Nat) (Ch : Nat → Nat → Nat) (F : Nat → Nat) (E : Nat → Nat → Nat) (M : Nat → Nat)  (hR : Rb M F E) (hf : Wf M)(hT : tOK Nt Sl Ch) : Met l_ yX3_fewestWires wsX3_fewestWires ({ frames := 11, cells := 0, slots := 0, locals := 289 }) (va_Pc [.ref (a 39), .ref (a 1)] (wH (Am tS sk sv) D k (tu a k Y Nt Sl Mt Ch ++ (bw a 1 k F E)))) (va_Qi (fun (r : Int32) (u : Nat → Nat → Nat) => r = oI (sRet M) ∧ ∀ i v, u i v < 4096) (fun (u : Nat → Nat → Nat) (t_ : State) => va_P D vwCl ((fun (u : Nat → Nat → Nat) => tu a k (nset Y 0 (kSg M (M 0 - 1))) (ccpy Nt (kNb M) (M 0 - 1)) (ccpy Sl (kSk M) (M 0 - 1)) (ccpy Mt (kMts M) (M 0 - 1)) u ++ (bw a 1 k F E)) u) t_.heap) (wA (tu a k Y Nt Sl Mt Ch ++ (bw a 1 k F E)))) 0 0 (wA (tu a k Y Nt Sl Mt Ch ++ (bw a 1 k F E))) := by
  refine my_entry (cc := cX3_fewestWires) (maxL := 5) (ret := some .int) (by decide) rfl (Nat.le_of_ble_eq_true rfl) ?_
  intro p_ e_ s_ m_ bl_ me_ c_ hz hr hlk hB ls hl
  obtain ⟨hP, hK, hD0, hy⟩ := hB
  have hD := wA.self hD0
  have hS : va_S (wA (tu a k Y Nt Sl Mt Ch ++ (bw a 1 k F E))) s_.heap s_.heap [] := va_S.rf
  have hl : lv_has ls 5 [(0, .ref (a 39)), (1, .ref (a 1))] := hl
  have f0 := hf.n2
  have f1 := hf.n9
  have f2 := hf.fr
  have f3 := hf.gd
  have f4 := hf.pc
  have f5 := hf.wc
  have f8 : 0 < 2 ^ (M 0 - 1) := Nat.two_pow_pos _
  have f9 := pow8 hf
  have hy2 := learnt_hyp (Mt := Mt) hf hT.2.1
  have hok := learnt_ok (M := M) hT
  have sg := kSg_lt (M := M) (n := M 0 - 1) (by omega)
  refine lv_aload_n hz.1 hz.2.1 dX3_fewestWires_0 rfl (lv_at hl 0 rfl) ?_
  refine lv_aload_n hz.1 hz.2.1 dX3_fewestWires_1 rfl (lv_at hl 1 rfl) ?_
  refine wrVv (A := wA (tu a k Y Nt Sl Mt Ch ++ (bw a 1 k F E))) (As := [.ref (a 1)]) (rest := []) hz (okAm tS sk sv) (c3_learn l_ D k a tS sk sv Y Nt Sl Mt Ch F E M hR hf) (cwV 1 hz.2.2.2.2 gX3_fewestWires_X3_learn rfl rfl rfl (by decide +kernel) ⟨Nat.le_of_ble_eq_true rfl, Nat.le_of_ble_eq_true rfl⟩) hK hy hP hD hS 0 3 rfl rfl rfl rfl hl.1 rfl (Nat.le_of_ble_eq_true rfl) dX3_fewestWires_2 ⟨Nat.zero_le _, Nat.zero_le _⟩ (fun _ H1 locs hp hP1 hS hfr => ?_)
  have hP : va_P D vwCl (tu a k (nset Y 0 (kSg M (M 0 - 1))) (ccpy Nt (kNb M) (M 0 - 1)) (ccpy Sl (kSk M) (M 0 - 1)) (ccpy Mt (kMts M) (M 0 - 1)) Ch ++ (bw a 1 k F E)) H1 := hP1
  generalize H1 = H at hP hS ⊢
  have hD : va_D (wA (tu a k Y Nt Sl Mt Ch ++ (bw a 1 k F E))) (tu a k (nset Y 0 (kSg M (M 0 - 1))) (ccpy Nt (kNb M) (M 0 - 1)) (ccpy Sl (kSk M) (M 0 - 1)) (ccpy Mt (kMts M) (M 0 - 1)) Ch ++ (bw a 1 k F E)) := hD.same rfl
  refine lv_aload_n hz.1 hz.2.1 dX3_fewestWires_5 rfl (lv_at hl 0 rfl) ?_
  refine lv_aload_n hz.1 hz.2.1 dX3_fewestWires_6 rfl (lv_at hl 0 rfl) ?_
  refine rg (T := TX3) (N := 5) hz hinX3_fewestWires_X3 hK hP 0 rfl rfl 4 (by decide) (List.mem_of_getElem? (i := 1) rfl) rfl (v := .int (nI (kSg M (M 0 - 1)))) rfl dX3_fewestWires_7 ?_
  refine wrV (A := wA (tu a k Y Nt Sl Mt Ch ++ (bw a 1 k F E))) (As := [.int (nI (kSg M (M 0 - 1)))]) (rest := []) hz (okAm tS sk sv) (c3_canTune l_ D k a tS sk sv (nset Y 0 (kSg M (M 0 - 1))) (ccpy Nt (kNb M) (M 0 - 1)) (ccpy Sl (kSk M) (M 0 - 1)) (ccpy Mt (kMts M) (M 0 - 1)) Ch (kSg M (M 0 - 1)) hy2 hok sg) (cwV 1 hz.2.2.2.2 gX3_fewestWires_X3_canTune rfl rfl rfl (by decide +kernel) ⟨Nat.le_of_ble_eq_true rfl, Nat.le_of_ble_eq_true rfl⟩) hK hy (hP.sub (ws' := tu a k (nset Y 0 (kSg M (M 0 - 1))) (ccpy Nt (kNb M) (M 0 - 1)) (ccpy Sl (kSk M) (M 0 - 1)) (ccpy Mt (kMts M) (M 0 - 1)) Ch) [0, 1, 2, 3, 4, 5, 6, 7, 8, 9, 10, 11, 12, 13] rfl) (hD.sub (ws' := tu a k (nset Y 0 (kSg M (M 0 - 1))) (ccpy Nt (kNb M) (M 0 - 1)) (ccpy Sl (kSk M) (M 0 - 1)) (ccpy Mt (kMts M) (M 0 - 1)) Ch) [0, 1, 2, 3, 4, 5, 6, 7, 8, 9, 10, 11, 12, 13] (by decide) rfl) hS 0 3 rfl rfl rfl rfl hl.1 rfl (Nat.le_of_ble_eq_true rfl) dX3_fewestWires_10 ⟨Nat.zero_le _, Nat.zero_le _⟩ (fun r u H1 locs hp hP1 hS hfr => ?_)
  obtain ⟨U1, hren_⟩ : ∃ z_, z_ = u := ⟨u, rfl⟩
  subst hren_
  obtain ⟨g1_1, g3_1⟩ := hp
  obtain rfl : r = bI (sCanB M (kSg M (M 0 - 1))) := g1_1.trans (by rw [show nset Y 0 (kSg M (M 0 - 1)) 0 = kSg M (M 0 - 1) from rfl, learnt_can hf])
  have hP1 : va_P D vwCl (tu a k (nset Y 0 (kSg M (M 0 - 1))) (ccpy Nt (kNb M) (M 0 - 1)) (ccpy Sl (kSk M) (M 0 - 1)) (ccpy Mt (kMts M) (M 0 - 1)) U1) H1 := hP1
  have hP : va_P D vwCl (tu a k (nset Y 0 (kSg M (M 0 - 1))) (ccpy Nt (kNb M) (M 0 - 1)) (ccpy Sl (kSk M) (M 0 - 1)) (ccpy Mt (kMts M) (M 0 - 1)) U1 ++ (bw a 1 k F E)) H1 := wJn (w1 := tu a k (nset Y 0 (kSg M (M 0 - 1))) (ccpy Nt (kNb M) (M 0 - 1)) (ccpy Sl (kSk M) (M 0 - 1)) (ccpy Mt (kMts M) (M 0 - 1)) U1) (wc := tu a k (nset Y 0 (kSg M (M 0 - 1))) (ccpy Nt (kNb M) (M 0 - 1)) (ccpy Sl (kSk M) (M 0 - 1)) (ccpy Mt (kMts M) (M 0 - 1)) Ch) hP hD [0, 1, 2, 3, 4, 5, 6, 7, 8, 9, 10, 11, 12, 13] rfl rfl hP1 hfr
  generalize H1 = H at hP hS ⊢
  have hD : va_D (wA (tu a k Y Nt Sl Mt Ch ++ (bw a 1 k F E))) (tu a k (nset Y 0 (kSg M (M 0 - 1))) (ccpy Nt (kNb M) (M 0 - 1)) (ccpy Sl (kSk M) (M 0 - 1)) (ccpy Mt (kMts M) (M 0 - 1)) U1 ++ (bw a 1 k F E)) := hD.same rfl
  refine zne (tgt := 18) hz dX3_fewestWires_13 (by decide) (fun c_13 => ?_) (fun c_13 => ?_)
  · refine lv_iconst (v := nI 1) hz.1 hz.2.1 dX3_fewestWires_18 (by decide) ?_
    refine lv_aload_n hz.1 hz.2.1 dX3_fewestWires_19 rfl (lv_at hl 1 rfl) ?_
    refine rdV (A := wA (tu a k Y Nt Sl Mt Ch ++ (bw a 1 k F E))) (As := []) (rest := [.int (nI 1)]) hz (okAm tS sk sv) (c0_wireCount l_ D k a 1 tS sk sv F E M  hR hf) (cwV 0 hz.2.2.2.2 gX3_fewestWires_X0_wireCount rfl rfl rfl (by decide +kernel) ⟨Nat.le_of_ble_eq_true rfl, Nat.le_of_ble_eq_true rfl⟩) hK hy (hP.sub (ws' := bw a 1 k F E) [14, 15, 16, 17, 18, 19, 20, 21] rfl) (hD.sub (ws' := bw a 1 k F E) [14, 15, 16, 17, 18, 19, 20, 21] (by decide) rfl) hS 0 0 rfl rfl rfl rfl hl.1 rfl (Nat.le_of_ble_eq_true rfl) dX3_fewestWires_20 ⟨Nat.zero_le _, Nat.zero_le _⟩ ?_
    refine lv_ishl hz.1 hz.2.1 dX3_fewestWires_23 ?_
    refine toe (z := nI (2 ^ (M 0 - 1))) (nI_shl1 (by omega)) ?_
    refine lv_istore_n (lv' := [(2, .int (nI (2 ^ (M 0 - 1)))), (0, .ref (a 39)), (1, .ref (a 1))]) hz.1 hz.2.1 dX3_fewestWires_24 rfl hl (by decide) rfl (fun ls hl => ?_)
    refine lv_iconst (v := nI 0) hz.1 hz.2.1 dX3_fewestWires_25 (by decide) ?_
    refine lv_istore_n (lv' := [(3, .int (nI 0)), (2, .int (nI (2 ^ (M 0 - 1)))), (0, .ref (a 39)), (1, .ref (a 1))]) hz.1 hz.2.1 dX3_fewestWires_26 rfl hl (by decide) rfl (fun ls hl => ?_)
    have lp_27 : ∀ (fu : Nat) (z : Nat) (Cv : Nat → Nat → Nat), (z ≤ 8) → (kLess M z) → (∀ i v, Cv i v < 4096) → 8 - z < fu → ∀ ls : Array Slot, ∀ (H : Heap) (locs : List Loc), va_P D vwCl (tu a k (nset Y 0 (kSg M (M 0 - 1))) (ccpy Nt (kNb M) (M 0 - 1)) (ccpy Sl (kSk M) (M 0 - 1)) (ccpy Mt (kMts M) (M 0 - 1)) Cv ++ (bw a 1 k F E)) H → va_S (wA (tu a k Y Nt Sl Mt Ch ++ (bw a 1 k F E))) s_.heap H locs → lv_has ls 5 [(0, .ref (a 39)), (1, .ref (a 1)), (2, .int (nI (2 ^ (M 0 - 1)))), (3, .int (nI z))] → W p_ l_ e_ ({ frames := 11, cells := 0, slots := 0, locals := 289 }) s_ m_ [.ref (a 39), .ref (a 1)].toArray bl_ me_ c_ H locs 0 0 (MQ bl_ (va_Qi (fun (r : Int32) (u : Nat → Nat → Nat) => r = oI (sRet M) ∧ ∀ i v, u i v < 4096) (fun (u : Nat → Nat → Nat) (t_ : State) => va_P D vwCl ((fun (u : Nat → Nat → Nat) => tu a k (nset Y 0 (kSg M (M 0 - 1))) (ccpy Nt (kNb M) (M 0 - 1)) (ccpy Sl (kSk M) (M 0 - 1)) (ccpy Mt (kMts M) (M 0 - 1)) u ++ (bw a 1 k F E)) u) t_.heap) (wA (tu a k Y Nt Sl Mt Ch ++ (bw a 1 k F E)))) [.ref (a 39), .ref (a 1)].toArray s_ 0 0 (wA (tu a k Y Nt Sl Mt Ch ++ (bw a 1 k F E)))) (F0 m_ 27 ls []) := by
      intro fu
      induction fu with
      | zero => intro z Cv hz8 hless hCb hm; exact absurd hm (Nat.not_lt_zero _)
      | succ fu ih27 =>
        intro z Cv hz8 hless hCb hm ls H locs hP hS hl
        have hD : va_D (wA (tu a k Y Nt Sl Mt Ch ++ (bw a 1 k F E))) (tu a k (nset Y 0 (kSg M (M 0 - 1))) (ccpy Nt (kNb M) (M 0 - 1)) (ccpy Sl (kSk M) (M 0 - 1)) (ccpy Mt (kMts M) (M 0 - 1)) Cv ++ (bw a 1 k F E)) := hD.same rfl
        refine lv_iload_n hz.1 hz.2.1 dX3_fewestWires_27 rfl (lv_at hl 3 rfl) ?_
        refine lv_bipush (v := nI 8) hz.1 hz.2.1 dX3_fewestWires_28 (by decide) ?_
        refine jge (tgt := 87) hz dX3_fewestWires_30 (by decide) (by omega) (by omega) (fun c_30 => ?_) (fun c_30 => ?_)
        · obtain rfl : z = 8 := by omega
          refine lv_aload_n hz.1 hz.2.1 dX3_fewestWires_87 rfl (lv_at hl 0 rfl) ?_
          refine rg (T := TX3) (N := 5) hz hinX3_fewestWires_X3 hK hP 0 rfl rfl 4 (by decide) (List.mem_of_getElem? (i := 1) rfl) rfl (v := .int (nI (kSg M (M 0 - 1)))) rfl dX3_fewestWires_88 ?_
          exact wr_iret hz hr hlk dX3_fewestWires_91 hS Cv hP (⟨by rw [ret_last hf hless c_13]; rfl, hCb⟩)
        · refine lv_iconst (v := nI 0) hz.1 hz.2.1 dX3_fewestWires_33 (by decide) ?_
          refine lv_istore (lv' := [(4, .int (nI 0)), (0, .ref (a 39)), (1, .ref (a 1)), (2, .int (nI (2 ^ (M 0 - 1)))), (3, .int (nI z))]) hz.1 hz.2.1 dX3_fewestWires_34 hl (by decide) rfl (fun ls hl => ?_)
          have lp_36 : ∀ (fu : Nat) (fr : Nat) (Cv : Nat → Nat → Nat), (fr ≤ 2 ^ (M 0 - 1)) → (kLes2 M z fr) → (∀ i v, Cv i v < 4096) → 2 ^ (M 0 - 1) - fr < fu → ∀ ls : Array Slot, ∀ (H : Heap) (locs : List Loc), va_P D vwCl (tu a k (nset Y 0 (kSg M (M 0 - 1))) (ccpy Nt (kNb M) (M 0 - 1)) (ccpy Sl (kSk M) (M 0 - 1)) (ccpy Mt (kMts M) (M 0 - 1)) Cv ++ (bw a 1 k F E)) H → va_S (wA (tu a k Y Nt Sl Mt Ch ++ (bw a 1 k F E))) s_.heap H locs → lv_has ls 5 [(0, .ref (a 39)), (1, .ref (a 1)), (2, .int (nI (2 ^ (M 0 - 1)))), (3, .int (nI z)), (4, .int (nI fr))] → W p_ l_ e_ ({ frames := 11, cells := 0, slots := 0, locals := 289 }) s_ m_ [.ref (a 39), .ref (a 1)].toArray bl_ me_ c_ H locs 0 0 (MQ bl_ (va_Qi (fun (r : Int32) (u : Nat → Nat → Nat) => r = oI (sRet M) ∧ ∀ i v, u i v < 4096) (fun (u : Nat → Nat → Nat) (t_ : State) => va_P D vwCl ((fun (u : Nat → Nat → Nat) => tu a k (nset Y 0 (kSg M (M 0 - 1))) (ccpy Nt (kNb M) (M 0 - 1)) (ccpy Sl (kSk M) (M 0 - 1)) (ccpy Mt (kMts M) (M 0 - 1)) u ++ (bw a 1 k F E)) u) t_.heap) (wA (tu a k Y Nt Sl Mt Ch ++ (bw a 1 k F E)))) [.ref (a 39), .ref (a 1)].toArray s_ 0 0 (wA (tu a k Y Nt Sl Mt Ch ++ (bw a 1 k F E)))) (F0 m_ 36 ls []) := by
            intro fu
            induction fu with
            | zero => intro fr Cv hq1 hles hCb hm; exact absurd hm (Nat.not_lt_zero _)
            | succ fu ih36 =>
              intro fr Cv hq1 hles hCb hm ls H locs hP hS hl
              have hD : va_D (wA (tu a k Y Nt Sl Mt Ch ++ (bw a 1 k F E))) (tu a k (nset Y 0 (kSg M (M 0 - 1))) (ccpy Nt (kNb M) (M 0 - 1)) (ccpy Sl (kSk M) (M 0 - 1)) (ccpy Mt (kMts M) (M 0 - 1)) Cv ++ (bw a 1 k F E)) := hD.same rfl
              refine lv_iload hz.1 hz.2.1 dX3_fewestWires_36 (lv_at hl 4 rfl) ?_
              refine lv_iload_n hz.1 hz.2.1 dX3_fewestWires_38 rfl (lv_at hl 2 rfl) ?_
              refine jge (tgt := 81) hz dX3_fewestWires_39 (by decide) (by omega) (by omega) (fun c_39 => ?_) (fun c_39 => ?_)
              · obtain rfl : fr = 2 ^ (M 0 - 1) := by omega
                refine lv_iinc (v := nI (z + 1)) (lv' := [(3, .int (nI (z + 1))), (0, .ref (a 39)), (1, .ref (a 1)), (2, .int (nI (2 ^ (M 0 - 1)))), (4, .int (nI (2 ^ (M 0 - 1))))]) hz.1 hz.2.1 dX3_fewestWires_81 hl (k := 3) rfl (nI_add _ 1) (by decide) rfl (fun ls hl => ?_)
                refine lv_goto (tgt := 27) hz.1 hz.2.1 dX3_fewestWires_84 (by decide) ?_
                exact ih27 (z + 1) Cv (by omega) (kLess_up hless hles) (hCb) (by omega) ls H locs hP hS (lv_sub hl [1, 2, 3, 0] rfl)
              · have p1 := sPop_le fr
                have b1 := andnot_le fr (kSg M (M 0 - 1))
                refine lv_iload hz.1 hz.2.1 dX3_fewestWires_42 (lv_at hl 4 rfl) ?_
                refine rdS (As := [.int (nI fr)]) (rest := []) hz (cJ_bit l_ fr (by omega)) rfl (va_cwS 1 hz.2.2.2.2 gX3_fewestWires_J6_bitCount_0f7a4 rfl rfl rfl (by decide +kernel) ⟨Nat.le_of_ble_eq_true rfl, Nat.le_of_ble_eq_true rfl⟩) rfl hl.1 rfl (Nat.le_of_ble_eq_true rfl) dX3_fewestWires_44 ⟨Nat.zero_le _, Nat.zero_le _⟩ ?_
                refine lv_iload_n hz.1 hz.2.1 dX3_fewestWires_47 rfl (lv_at hl 3 rfl) ?_
                refine jne (tgt := 75) hz dX3_fewestWires_48 (by decide) (by omega) (by omega) (fun c_48 => ?_) (fun c_48 => ?_)
                · refine lv_iinc (v := nI (fr + 1)) (lv' := [(4, .int (nI (fr + 1))), (0, .ref (a 39)), (1, .ref (a 1)), (2, .int (nI (2 ^ (M 0 - 1)))), (3, .int (nI z))]) hz.1 hz.2.1 dX3_fewestWires_75 hl (k := 4) rfl (nI_add _ 1) (by decide) rfl (fun ls hl => ?_)
                  refine lv_goto (tgt := 36) hz.1 hz.2.1 dX3_fewestWires_78 (by decide) ?_
                  exact ih36 (fr + 1) Cv (by omega) (fun s hs h1 h2 => by rcases Nat.lt_or_ge s fr with q | q; exact hles s q h1 h2; rw [show s = fr by omega] at h1 h2 ⊢; exact absurd h2 c_48) (hCb) (by omega) ls H locs hP hS (lv_sub hl [1, 2, 3, 4, 0] rfl)
                · refine lv_iload hz.1 hz.2.1 dX3_fewestWires_51 (lv_at hl 4 rfl) ?_
                  refine lv_aload_n hz.1 hz.2.1 dX3_fewestWires_53 rfl (lv_at hl 0 rfl) ?_
                  refine rg (T := TX3) (N := 5) hz hinX3_fewestWires_X3 hK hP 0 rfl rfl 4 (by decide) (List.mem_of_getElem? (i := 1) rfl) rfl (v := .int (nI (kSg M (M 0 - 1)))) rfl dX3_fewestWires_54 ?_
                  refine lv_iconst (v := (-1)) hz.1 hz.2.1 dX3_fewestWires_57 (by decide) ?_
                  refine lv_ixor hz.1 hz.2.1 dX3_fewestWires_58 ?_
                  refine lv_iand hz.1 hz.2.1 dX3_fewestWires_59 ?_
                  refine toe (z := nI (fr ^^^ (fr &&& kSg M (M 0 - 1)))) (nI_andnot _ _) ?_
                  refine jne0 (tgt := 75) hz dX3_fewestWires_60 (by decide) (by omega) (fun c_60 => ?_) (fun c_60 => ?_)
                  · refine lv_iinc (v := nI (fr + 1)) (lv' := [(4, .int (nI (fr + 1))), (0, .ref (a 39)), (1, .ref (a 1)), (2, .int (nI (2 ^ (M 0 - 1)))), (3, .int (nI z))]) hz.1 hz.2.1 dX3_fewestWires_75 hl (k := 4) rfl (nI_add _ 1) (by decide) rfl (fun ls hl => ?_)
                    refine lv_goto (tgt := 36) hz.1 hz.2.1 dX3_fewestWires_78 (by decide) ?_
                    exact ih36 (fr + 1) Cv (by omega) (fun s hs h1 h2 => by rcases Nat.lt_or_ge s fr with q | q; exact hles s q h1 h2; rw [show s = fr by omega] at h1 h2 ⊢; exact absurd h1 c_60) (hCb) (by omega) ls H locs hP hS (lv_sub hl [1, 2, 3, 4, 0] rfl)
                  · refine lv_aload_n hz.1 hz.2.1 dX3_fewestWires_63 rfl (lv_at hl 0 rfl) ?_
                    refine lv_iload hz.1 hz.2.1 dX3_fewestWires_64 (lv_at hl 4 rfl) ?_
                    refine wrV (A := wA (tu a k Y Nt Sl Mt Ch ++ (bw a 1 k F E))) (As := [.int (nI fr)]) (rest := []) hz (okAm tS sk sv) (c3_canTune l_ D k a tS sk sv (nset Y 0 (kSg M (M 0 - 1))) (ccpy Nt (kNb M) (M 0 - 1)) (ccpy Sl (kSk M) (M 0 - 1)) (ccpy Mt (kMts M) (M 0 - 1)) Cv fr hy2 ⟨hok.1, hok.2.1, hCb⟩ (by omega)) (cwV 1 hz.2.2.2.2 gX3_fewestWires_X3_canTune rfl rfl rfl (by decide +kernel) ⟨Nat.le_of_ble_eq_true rfl, Nat.le_of_ble_eq_true rfl⟩) hK hy (hP.sub (ws' := tu a k (nset Y 0 (kSg M (M 0 - 1))) (ccpy Nt (kNb M) (M 0 - 1)) (ccpy Sl (kSk M) (M 0 - 1)) (ccpy Mt (kMts M) (M 0 - 1)) Cv) [0, 1, 2, 3, 4, 5, 6, 7, 8, 9, 10, 11, 12, 13] rfl) (hD.sub (ws' := tu a k (nset Y 0 (kSg M (M 0 - 1))) (ccpy Nt (kNb M) (M 0 - 1)) (ccpy Sl (kSk M) (M 0 - 1)) (ccpy Mt (kMts M) (M 0 - 1)) Cv) [0, 1, 2, 3, 4, 5, 6, 7, 8, 9, 10, 11, 12, 13] (by decide) rfl) hS 0 3 rfl rfl rfl rfl hl.1 rfl (Nat.le_of_ble_eq_true rfl) dX3_fewestWires_66 ⟨Nat.zero_le _, Nat.zero_le _⟩ (fun r u H1 locs hp hP1 hS hfr => ?_)
                    obtain ⟨U2, hren_⟩ : ∃ z_, z_ = u := ⟨u, rfl⟩
                    subst hren_
                    obtain ⟨g1_2, g3_2⟩ := hp
                    obtain rfl : r = bI (sCanB M fr) := g1_2.trans (by rw [show nset Y 0 (kSg M (M 0 - 1)) 0 = kSg M (M 0 - 1) from rfl, learnt_can hf])
                    have hP1 : va_P D vwCl (tu a k (nset Y 0 (kSg M (M 0 - 1))) (ccpy Nt (kNb M) (M 0 - 1)) (ccpy Sl (kSk M) (M 0 - 1)) (ccpy Mt (kMts M) (M 0 - 1)) U2) H1 := hP1
                    have hP : va_P D vwCl (tu a k (nset Y 0 (kSg M (M 0 - 1))) (ccpy Nt (kNb M) (M 0 - 1)) (ccpy Sl (kSk M) (M 0 - 1)) (ccpy Mt (kMts M) (M 0 - 1)) U2 ++ (bw a 1 k F E)) H1 := wJn (w1 := tu a k (nset Y 0 (kSg M (M 0 - 1))) (ccpy Nt (kNb M) (M 0 - 1)) (ccpy Sl (kSk M) (M 0 - 1)) (ccpy Mt (kMts M) (M 0 - 1)) U2) (wc := tu a k (nset Y 0 (kSg M (M 0 - 1))) (ccpy Nt (kNb M) (M 0 - 1)) (ccpy Sl (kSk M) (M 0 - 1)) (ccpy Mt (kMts M) (M 0 - 1)) Cv) hP hD [0, 1, 2, 3, 4, 5, 6, 7, 8, 9, 10, 11, 12, 13] rfl rfl hP1 hfr
                    generalize H1 = H at hP hS ⊢
                    have hD : va_D (wA (tu a k Y Nt Sl Mt Ch ++ (bw a 1 k F E))) (tu a k (nset Y 0 (kSg M (M 0 - 1))) (ccpy Nt (kNb M) (M 0 - 1)) (ccpy Sl (kSk M) (M 0 - 1)) (ccpy Mt (kMts M) (M 0 - 1)) U2 ++ (bw a 1 k F E)) := hD.same rfl
                    refine zeq (tgt := 75) hz dX3_fewestWires_69 (by decide) (fun c_69 => ?_) (fun c_69 => ?_)
                    · refine lv_iinc (v := nI (fr + 1)) (lv' := [(4, .int (nI (fr + 1))), (0, .ref (a 39)), (1, .ref (a 1)), (2, .int (nI (2 ^ (M 0 - 1)))), (3, .int (nI z))]) hz.1 hz.2.1 dX3_fewestWires_75 hl (k := 4) rfl (nI_add _ 1) (by decide) rfl (fun ls hl => ?_)
                      refine lv_goto (tgt := 36) hz.1 hz.2.1 dX3_fewestWires_78 (by decide) ?_
                      exact ih36 (fr + 1) U2 (by omega) (fun s hs h1 h2 => by rcases Nat.lt_or_ge s fr with q | q; exact hles s q h1 h2; rw [show s = fr by omega] at h1 h2 ⊢; exact c_69) (g3_2) (by omega) ls H locs hP hS (lv_sub hl [1, 2, 3, 4, 0] rfl)
                    · refine lv_iload hz.1 hz.2.1 dX3_fewestWires_72 (lv_at hl 4 rfl) ?_
                      exact wr_iret hz hr hlk dX3_fewestWires_74 hS U2 hP (⟨by rw [ret_found hf hless hles c_39 c_60 c_48 c_69 c_13]; rfl, g3_2⟩)
          exact lp_36 _ 0 Cv (by omega) (fun s h => absurd h (Nat.not_lt_zero s)) (hCb) (Nat.lt_succ_self _) ls _ _ hP hS (lv_sub hl [1, 2, 3, 4, 0] rfl)
    exact lp_27 _ 0 U1 (by omega) (fun s _ _ h => absurd h (Nat.not_lt_zero _)) (g3_1) (Nat.lt_succ_self _) ls _ _ hP hS (lv_sub hl [2, 3, 1, 0] rfl)
  · refine lv_iconst (v := (-1)) hz.1 hz.2.1 dX3_fewestWires_16 (by decide) ?_
    exact wr_iret hz hr hlk dX3_fewestWires_17 hS U1 hP (⟨by rw [sRet, if_neg (by rw [can_full hf, c_13]; decide)]; rfl, g3_1⟩)
