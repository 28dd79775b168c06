theorem hinX1_readFrost_X0 : ∀ w ∈ wsX00, w ∈ wsX1_readFrost := fun _ h => List.mem_cons_of_mem _ (List.mem_append_left _ (List.mem_append_right _ h))
theorem hinX1_readFrost_X1 : ∀ w ∈ wsX10, w ∈ wsX1_readFrost := fun _ h => List.mem_cons_of_mem _ (List.mem_append_right _ h)
set_option maxHeartbeats 4000000 in
set_option maxRecDepth 100000 in
theorem c1_readFrost (l_ : Launch) (D : va_G) (k : Nat → ClassId) (a : Nat → Nat) (tS : Nat) (sk sv : Nat → Nat) (X : Nat → Nat) (T : Nat → Nat) (F : Nat → Nat) (E : Nat → Nat → Nat) (p : Nat) (M : Nat → Nat)  (hL : X 0 ≤ 200) (hT : ∀ j, T j < 256) (hp : p ≤ X 0) (hR : Rb M F E) (hf : Wf M) : Met l_ yX1_readFrost wsX1_readFrost ({ frames := 3, cells := 0, slots := 0, locals := 65 }) (va_Pc [.ref (a 35), .ref (a 9)] (wH (Am tS sk sv) D k (tw a k (kX T (X 0) p) T ++ (bw a 9 k F E)))) (va_Qi (fun (r : Int32) (u : (Nat → Nat) × (Nat → Nat → Nat)) => r = bI (kOK T (X 0) (sRF T (X 0) p M)) ∧ ((sRF T (X 0) p M).1 = true → Rb (sRF T (X 0) p M).2.2 u.1 u.2)) (fun (u : (Nat → Nat) × (Nat → Nat → Nat)) (t_ : State) => va_P D vwCl ((fun (u : (Nat → Nat) × (Nat → Nat → Nat)) => tw a k (kX T (X 0) ((sRF T (X 0) p M).2.1)) T ++ (bw a 9 k u.1 u.2)) u) t_.heap) (wA (tw a k (kX T (X 0) p) T ++ (bw a 9 k F E)))) 0 0 (wA (tw a k (kX T (X 0) p) T ++ (bw a 9 k F E))) := by
  refine my_entry (cc := cX1_readFrost) (maxL := 3) (ret := some .boolean) (by decide) rfl (Nat.le_of_ble_eq_true rfl) ?_
  intro p_ e_ s_ m_ bl_ me_ c_ hz hr hlk hB ls hl
  obtain ⟨hP, hK, hD0, hy⟩ := hB
  have hD := wA.self hD0
  have hS : va_S (wA (tw a k (kX T (X 0) p) T ++ (bw a 9 k F E))) s_.heap s_.heap [] := va_S.rf
  have hl : lv_has ls 3 [(0, .ref (a 35)), (1, .ref (a 9))] := hl
  have hx1 := sNx_in (T := T) hp
  have hx2 := sNx_in (T := T) hx1.2.1
  have hx3 := sNx_in (T := T) hx2.2.1
  have hx4 := sNx_in (T := T) hx3.2.1
  have f0 := hf.n2
  have f1 := hf.n9
  have f2 := hf.fr
  have f3 := hf.gd
  have f4 := hf.pc
  have f5 := hf.wc
  have e0 : F 0 = M 0 := hR.1.1
  have e1 : F 1 = M 1 := hR.1.2.1
  have e2 : F 2 = M 2 := hR.1.2.2.1
  have e3 : F 3 = M 19 := hR.1.2.2.2.1
  have e4 : F 4 = M 32 := hR.1.2.2.2.2
  refine lv_aload_n hz.1 hz.2.1 dX1_readFrost_0 rfl (lv_at hl 0 rfl) ?_
  refine lv_iconst (v := nI 0) hz.1 hz.2.1 dX1_readFrost_1 (by decide) ?_
  refine lv_iconst (v := nI 5) hz.1 hz.2.1 dX1_readFrost_2 (by decide) ?_
  refine wrV (A := wA (tw a k (kX T (X 0) p) T ++ (bw a 9 k F E))) (As := [.int (nI 0), .int (nI 5)]) (rest := []) hz (okAm tS sk sv) (c1_nextNumber l_ D k a tS sk sv X T p 0 5 hL hT (by omega) (by omega) (by omega)) (cwV 2 hz.2.2.2.2 gX1_readFrost_X1_nextNumber rfl rfl rfl (by decide +kernel) ⟨Nat.le_of_ble_eq_true rfl, Nat.le_of_ble_eq_true rfl⟩) hK hy (hP.sub (ws' := tw a k (kX T (X 0) p) T) [0, 1] rfl) (hD.sub (ws' := tw a k (kX T (X 0) p) T) [0, 1] (by decide) rfl) hS 0 1 rfl rfl rfl rfl hl.1 rfl (Nat.le_of_ble_eq_true rfl) dX1_readFrost_3 ⟨Nat.zero_le _, Nat.zero_le _⟩ (fun r _ H1 locs hp hP1 hS hfr => ?_)
  obtain rfl : r = oI (kNum T (X 0) (sNx T (X 0) p) 0 5) := hp
  have hP1 : va_P D vwCl (tw a k (kX T (X 0) (sNx T (X 0) p)) T) H1 := hP1
  have hP : va_P D vwCl (tw a k (kX T (X 0) (sNx T (X 0) p)) T ++ (bw a 9 k F E)) H1 := wJn (w1 := tw a k (kX T (X 0) (sNx T (X 0) p)) T) (wc := tw a k (kX T (X 0) p) T) hP hD [0, 1] rfl rfl hP1 hfr
  generalize H1 = H at hP hS ⊢
  have hD : va_D (wA (tw a k (kX T (X 0) p) T ++ (bw a 9 k F E))) (tw a k (kX T (X 0) (sNx T (X 0) p)) T ++ (bw a 9 k F E)) := hD.same rfl
  refine lv_istore_n (lv' := [(2, .int (oI (kNum T (X 0) (sNx T (X 0) p) 0 5))), (0, .ref (a 35)), (1, .ref (a 9))]) hz.1 hz.2.1 dX1_readFrost_6 rfl hl (by decide) rfl (fun ls hl => ?_)
  refine lv_iload_n hz.1 hz.2.1 dX1_readFrost_7 rfl (lv_at hl 0 rfl) ?_
  refine lv_if_ge (tgt := 13) hz.1 hz.2.1 dX1_readFrost_8 (by decide) (fun c_8 => ?_) (fun c_8 => ?_)
  · have hn8 : sNum T (X 0) (sNx T (X 0) p) 0 5 := kNum_ge (le_lt0 c_8)
    have hv8 := hn8.2.2
    rw [kNum_s hn8] at hl
    have hl : lv_has ls 3 [(2, .int (nI (sVl T (X 0) (sNx T (X 0) p)))), (0, .ref (a 35)), (1, .ref (a 9))] := hl
    refine lv_aload_n hz.1 hz.2.1 dX1_readFrost_13 rfl (lv_at hl 2 rfl) ?_
    refine lv_iload_n hz.1 hz.2.1 dX1_readFrost_14 rfl (lv_at hl 0 rfl) ?_
    refine rput (v := .int (nI (sVl T (X 0) (sNx T (X 0) p)))) (ty := .int) (T := TX0) (N := 12) hz hinX1_readFrost_X0 tyX0 tyX0_ok nmX0 hK hP hD hS 2 rfl rfl 1 (by decide) (List.mem_of_getElem? (i := 1) rfl) rfl rfl (by decide +kernel) rfl rfl (Nat.le_of_ble_eq_true rfl) dX1_readFrost_15 (fun H locs hP hS => ?_)
    have hP : va_P D vwCl (tw a k (kX T (X 0) (sNx T (X 0) p)) T ++ (bw a 9 k (nset F 1 (sVl T (X 0) (sNx T (X 0) p))) E)) H := hP
    have hD : va_D (wA (tw a k (kX T (X 0) p) T ++ (bw a 9 k F E))) (tw a k (kX T (X 0) (sNx T (X 0) p)) T ++ (bw a 9 k (nset F 1 (sVl T (X 0) (sNx T (X 0) p))) E)) := hD.same rfl
    refine lv_aload_n hz.1 hz.2.1 dX1_readFrost_18 rfl (lv_at hl 1 rfl) ?_
    refine wrV (A := wA (tw a k (kX T (X 0) p) T ++ (bw a 9 k F E))) (As := []) (rest := []) hz (okAm tS sk sv) (c1_nextStop l_ D k a tS sk sv X T (sNx T (X 0) p)  hL hT (by omega)) (cwV 0 hz.2.2.2.2 gX1_readFrost_X1_nextStop rfl rfl rfl (by decide +kernel) ⟨Nat.le_of_ble_eq_true rfl, Nat.le_of_ble_eq_true rfl⟩) hK hy (hP.sub (ws' := tw a k (kX T (X 0) (sNx T (X 0) p)) T) [0, 1] rfl) (hD.sub (ws' := tw a k (kX T (X 0) (sNx T (X 0) p)) T) [0, 1] (by decide) rfl) hS 0 1 rfl rfl rfl rfl hl.1 rfl (Nat.le_of_ble_eq_true rfl) dX1_readFrost_19 ⟨Nat.zero_le _, Nat.zero_le _⟩ (fun r _ H1 locs hp hP1 hS hfr => ?_)
    obtain rfl : r = bI (decide (sKd T (X 0) (sNx T (X 0) (sNx T (X 0) p)) = 3)) := hp
    have hP1 : va_P D vwCl (tw a k (kX T (X 0) (sNx T (X 0) (sNx T (X 0) p))) T) H1 := hP1
    have hP : va_P D vwCl (tw a k (kX T (X 0) (sNx T (X 0) (sNx T (X 0) p))) T ++ (bw a 9 k (nset F 1 (sVl T (X 0) (sNx T (X 0) p))) E)) H1 := wJn (w1 := tw a k (kX T (X 0) (sNx T (X 0) (sNx T (X 0) p))) T) (wc := tw a k (kX T (X 0) (sNx T (X 0) p)) T) hP hD [0, 1] rfl rfl hP1 hfr
    generalize H1 = H at hP hS ⊢
    have hD : va_D (wA (tw a k (kX T (X 0) p) T ++ (bw a 9 k F E))) (tw a k (kX T (X 0) (sNx T (X 0) (sNx T (X 0) p))) T ++ (bw a 9 k (nset F 1 (sVl T (X 0) (sNx T (X 0) p))) E)) := hD.same rfl
    have eS : sRF T (X 0) p M = (true, sNx T (X 0) (sNx T (X 0) p), nset M 1 (sVl T (X 0) (sNx T (X 0) p))) := by rw [sRF, if_pos hn8]
    have hP : va_P D vwCl (tw a k (kX T (X 0) ((sRF T (X 0) p M).2.1)) T ++ (bw a 9 k (nset F 1 (sVl T (X 0) (sNx T (X 0) p))) E)) H := by rw [eS]; exact hP
    exact wr_zret hz hr hlk dX1_readFrost_22 hS (rfl) ((⟨nset F 1 (sVl T (X 0) (sNx T (X 0) p)), E⟩ : (Nat → Nat) × (Nat → Nat → Nat))) hP (⟨by rw [eS]; rfl, fun _ => by rw [eS]; exact hR.frost _⟩)
  · have hn8 : ¬ sNum T (X 0) (sNx T (X 0) p) 0 5 := kNum_no hT (nle_lt0 c_8)
    refine lv_iconst (v := nI 0) hz.1 hz.2.1 dX1_readFrost_11 (by decide) ?_
    have eS : sRF T (X 0) p M = (false, sNx T (X 0) p, M) := by rw [sRF, if_neg hn8]
    have hP : va_P D vwCl (tw a k (kX T (X 0) ((sRF T (X 0) p M).2.1)) T ++ (bw a 9 k F E)) H := by rw [eS]; exact hP
    exact wr_zret hz hr hlk dX1_readFrost_12 hS (bI_0 (z := false) rfl) ((⟨F, E⟩ : (Nat → Nat) × (Nat → Nat → Nat))) hP (⟨by rw [eS]; rfl, fun h => by rw [eS] at h; cases h⟩)

theorem hinX1_readGuard_X0 : ∀ w ∈ wsX00, w ∈ wsX1_readGuard := fun _ h => List.mem_cons_of_mem _ (List.mem_append_left _ (List.mem_append_right _ h))
theorem hinX1_readGuard_X1 : ∀ w ∈ wsX10, w ∈ wsX1_readGuard := fun _ h => List.mem_cons_of_mem _ (List.mem_append_right _ h)
set_option maxHeartbeats 4000000 in
set_option maxRecDepth 100000 in
theorem c1_readGuard (l_ : Launch) (D : va_G) (k : Nat → ClassId) (a : Nat → Nat) (tS : Nat) (sk sv : Nat → Nat) (X : Nat → Nat) (T : Nat → Nat) (F : Nat → Nat) (E : Nat → Nat → Nat) (p : Nat) (M : Nat → Nat)  (hL : X 0 ≤ 200) (hT : ∀ j, T j < 256) (hp : p ≤ X 0) (hR : Rb M F E) (hf : Wf M) : Met l_ yX1_readGuard wsX1_readGuard ({ frames := 3, cells := 0, slots := 0, locals := 65 }) (va_Pc [.ref (a 35), .ref (a 9)] (wH (Am tS sk sv) D k (tw a k (kX T (X 0) p) T ++ (bw a 9 k F E)))) (va_Qi (fun (r : Int32) (u : (Nat → Nat) × (Nat → Nat → Nat)) => r = bI (kOK T (X 0) (sRG T (X 0) p M)) ∧ ((sRG T (X 0) p M).1 = true → Rb (sRG T (X 0) p M).2.2 u.1 u.2)) (fun (u : (Nat → Nat) × (Nat → Nat → Nat)) (t_ : State) => va_P D vwCl ((fun (u : (Nat → Nat) × (Nat → Nat → Nat)) => tw a k (kX T (X 0) ((sRG T (X 0) p M).2.1)) T ++ (bw a 9 k u.1 u.2)) u) t_.heap) (wA (tw a k (kX T (X 0) p) T ++ (bw a 9 k F E)))) 0 0 (wA (tw a k (kX T (X 0) p) T ++ (bw a 9 k F E))) := by
  refine my_entry (cc := cX1_readGuard) (maxL := 3) (ret := some .boolean) (by decide) rfl (Nat.le_of_ble_eq_true rfl) ?_
  intro p_ e_ s_ m_ bl_ me_ c_ hz hr hlk hB ls hl
  obtain ⟨hP, hK, hD0, hy⟩ := hB
  have hD := wA.self hD0
  have hS : va_S (wA (tw a k (kX T (X 0) p) T ++ (bw a 9 k F E))) s_.heap s_.heap [] := va_S.rf
  have hl : lv_has ls 3 [(0, .ref (a 35)), (1, .ref (a 9))] := hl
  have hx1 := sNx_in (T := T) hp
  have hx2 := sNx_in (T := T) hx1.2.1
  have hx3 := sNx_in (T := T) hx2.2.1
  have hx4 := sNx_in (T := T) hx3.2.1
  have f0 := hf.n2
  have f1 := hf.n9
  have f2 := hf.fr
  have f3 := hf.gd
  have f4 := hf.pc
  have f5 := hf.wc
  have e0 : F 0 = M 0 := hR.1.1
  have e1 : F 1 = M 1 := hR.1.2.1
  have e2 : F 2 = M 2 := hR.1.2.2.1
  have e3 : F 3 = M 19 := hR.1.2.2.2.1
  have e4 : F 4 = M 32 := hR.1.2.2.2.2
  refine lv_aload_n hz.1 hz.2.1 dX1_readGuard_0 rfl (lv_at hl 0 rfl) ?_
  refine lv_iconst (v := nI 0) hz.1 hz.2.1 dX1_readGuard_1 (by decide) ?_
  refine lv_aload_n hz.1 hz.2.1 dX1_readGuard_2 rfl (lv_at hl 1 rfl) ?_
  refine rg (T := TX0) (N := 12) hz hinX1_readGuard_X0 hK hP 2 rfl rfl 0 (by decide) (List.mem_of_getElem? (i := 1) rfl) rfl (v := .int (nI (F 0))) rfl dX1_readGuard_3 ?_
  refine toe (z := nI (M 0)) (by rw [hR.1.1]) ?_
  refine lv_iconst (v := nI 1) hz.1 hz.2.1 dX1_readGuard_6 (by decide) ?_
  refine lv_isub hz.1 hz.2.1 dX1_readGuard_7 ?_
  refine toe (z := nI ((M 0) - 1)) (pk_sub (by omega)) ?_
  refine wrV (A := wA (tw a k (kX T (X 0) p) T ++ (bw a 9 k F E))) (As := [.int (nI 0), .int (nI ((M 0) - 1))]) (rest := []) hz (okAm tS sk sv) (c1_nextNumber l_ D k a tS sk sv X T p 0 ((M 0) - 1) hL hT (by omega) (by omega) (by omega)) (cwV 2 hz.2.2.2.2 gX1_readGuard_X1_nextNumber rfl rfl rfl (by decide +kernel) ⟨Nat.le_of_ble_eq_true rfl, Nat.le_of_ble_eq_true rfl⟩) hK hy (hP.sub (ws' := tw a k (kX T (X 0) p) T) [0, 1] rfl) (hD.sub (ws' := tw a k (kX T (X 0) p) T) [0, 1] (by decide) rfl) hS 0 1 rfl rfl rfl rfl hl.1 rfl (Nat.le_of_ble_eq_true rfl) dX1_readGuard_8 ⟨Nat.zero_le _, Nat.zero_le _⟩ (fun r _ H1 locs hp hP1 hS hfr => ?_)
  obtain rfl : r = oI (kNum T (X 0) (sNx T (X 0) p) 0 ((M 0) - 1)) := hp
  have hP1 : va_P D vwCl (tw a k (kX T (X 0) (sNx T (X 0) p)) T) H1 := hP1
  have hP : va_P D vwCl (tw a k (kX T (X 0) (sNx T (X 0) p)) T ++ (bw a 9 k F E)) H1 := wJn (w1 := tw a k (kX T (X 0) (sNx T (X 0) p)) T) (wc := tw a k (kX T (X 0) p) T) hP hD [0, 1] rfl rfl hP1 hfr
  generalize H1 = H at hP hS ⊢
  have hD : va_D (wA (tw a k (kX T (X 0) p) T ++ (bw a 9 k F E))) (tw a k (kX T (X 0) (sNx T (X 0) p)) T ++ (bw a 9 k F E)) := hD.same rfl
  refine lv_istore_n (lv' := [(2, .int (oI (kNum T (X 0) (sNx T (X 0) p) 0 ((M 0) - 1)))), (0, .ref (a 35)), (1, .ref (a 9))]) hz.1 hz.2.1 dX1_readGuard_11 rfl hl (by decide) rfl (fun ls hl => ?_)
  refine lv_iload_n hz.1 hz.2.1 dX1_readGuard_12 rfl (lv_at hl 0 rfl) ?_
  refine lv_if_lt (tgt := 24) hz.1 hz.2.1 dX1_readGuard_13 (by decide) (fun c_13 => ?_) (fun c_13 => ?_)
  · have hn13 : ¬ sNum T (X 0) (sNx T (X 0) p) 0 ((M 0) - 1) := kNum_no hT (c_13)
    refine lv_iconst (v := nI 0) hz.1 hz.2.1 dX1_readGuard_24 (by decide) ?_
    have eS : sRG T (X 0) p M = (false, sNx T (X 0) p, M) := by rw [sRG, if_neg (fun z => hn13 ⟨z.1, Nat.zero_le _, by have := z.2.1; omega⟩)]
    have hP : va_P D vwCl (tw a k (kX T (X 0) ((sRG T (X 0) p M).2.1)) T ++ (bw a 9 k F E)) H := by rw [eS]; exact hP
    exact wr_zret hz hr hlk dX1_readGuard_25 hS (bI_0 (z := false) rfl) ((⟨F, E⟩ : (Nat → Nat) × (Nat → Nat → Nat))) hP (⟨by rw [eS]; rfl, fun h => by rw [eS] at h; cases h⟩)
  · have hn13 : sNum T (X 0) (sNx T (X 0) p) 0 ((M 0) - 1) := kNum_ge (c_13)
    have hv13 := hn13.2.2
    rw [kNum_s hn13] at hl
    have hl : lv_has ls 3 [(2, .int (nI (sVl T (X 0) (sNx T (X 0) p)))), (0, .ref (a 35)), (1, .ref (a 9))] := hl
    refine lv_aload_n hz.1 hz.2.1 dX1_readGuard_16 rfl (lv_at hl 2 rfl) ?_
    refine lv_iload_n hz.1 hz.2.1 dX1_readGuard_17 rfl (lv_at hl 0 rfl) ?_
    refine rdV (A := wA (tw a k (kX T (X 0) p) T ++ (bw a 9 k F E))) (As := [.int (nI (sVl T (X 0) (sNx T (X 0) p)))]) (rest := []) hz (okAm tS sk sv) (c0_hasGuard l_ D k a 9 tS sk sv F E M (sVl T (X 0) (sNx T (X 0) p)) hR hf (by omega)) (cwV 1 hz.2.2.2.2 gX1_readGuard_X0_hasGuard rfl rfl rfl (by decide +kernel) ⟨Nat.le_of_ble_eq_true rfl, Nat.le_of_ble_eq_true rfl⟩) hK hy (hP.sub (ws' := bw a 9 k F E) [2, 3, 4, 5, 6, 7, 8, 9] rfl) (hD.sub (ws' := bw a 9 k F E) [2, 3, 4, 5, 6, 7, 8, 9] (by decide) rfl) hS 0 0 rfl rfl rfl rfl hl.1 rfl (Nat.le_of_ble_eq_true rfl) dX1_readGuard_18 ⟨Nat.zero_le _, Nat.zero_le _⟩ ?_
    refine zeq (tgt := 26) hz dX1_readGuard_21 (by decide) (fun c_21 => ?_) (fun c_21 => ?_)
    · refine lv_aload_n hz.1 hz.2.1 dX1_readGuard_26 rfl (lv_at hl 2 rfl) ?_
      refine lv_dup hz.1 hz.2.1 dX1_readGuard_27 rfl ?_
      refine rg (T := TX0) (N := 12) hz hinX1_readGuard_X0 hK hP 2 rfl rfl 2 (by decide) (List.mem_of_getElem? (i := 2) rfl) rfl (v := .int (nI (F 2))) rfl dX1_readGuard_28 ?_
      refine toe (z := nI (M 2)) (by rw [hR.1.2.2.1]) ?_
      refine lv_iconst (v := nI 1) hz.1 hz.2.1 dX1_readGuard_31 (by decide) ?_
      refine lv_iload_n hz.1 hz.2.1 dX1_readGuard_32 rfl (lv_at hl 0 rfl) ?_
      refine lv_ishl hz.1 hz.2.1 dX1_readGuard_33 ?_
      refine toe (z := nI (2 ^ (sVl T (X 0) (sNx T (X 0) p)))) (nI_shl1 (by omega)) ?_
      refine lv_ior hz.1 hz.2.1 dX1_readGuard_34 ?_
      refine toe (z := nI ((M 2) ||| (2 ^ (sVl T (X 0) (sNx T (X 0) p))))) (fa_or _ _) ?_
      refine rput (v := .int (nI ((M 2) ||| (2 ^ (sVl T (X 0) (sNx T (X 0) p)))))) (ty := .int) (T := TX0) (N := 12) hz hinX1_readGuard_X0 tyX0 tyX0_ok nmX0 hK hP hD hS 2 rfl rfl 2 (by decide) (List.mem_of_getElem? (i := 2) rfl) rfl rfl (by decide +kernel) rfl rfl (Nat.le_of_ble_eq_true rfl) dX1_readGuard_35 (fun H locs hP hS => ?_)
      have hP : va_P D vwCl (tw a k (kX T (X 0) (sNx T (X 0) p)) T ++ (bw a 9 k (nset F 2 ((M 2) ||| (2 ^ (sVl T (X 0) (sNx T (X 0) p))))) E)) H := hP
      have hD : va_D (wA (tw a k (kX T (X 0) p) T ++ (bw a 9 k F E))) (tw a k (kX T (X 0) (sNx T (X 0) p)) T ++ (bw a 9 k (nset F 2 ((M 2) ||| (2 ^ (sVl T (X 0) (sNx T (X 0) p))))) E)) := hD.same rfl
      refine lv_aload_n hz.1 hz.2.1 dX1_readGuard_38 rfl (lv_at hl 1 rfl) ?_
      refine wrV (A := wA (tw a k (kX T (X 0) p) T ++ (bw a 9 k F E))) (As := []) (rest := []) hz (okAm tS sk sv) (c1_nextStop l_ D k a tS sk sv X T (sNx T (X 0) p)  hL hT (by omega)) (cwV 0 hz.2.2.2.2 gX1_readGuard_X1_nextStop rfl rfl rfl (by decide +kernel) ⟨Nat.le_of_ble_eq_true rfl, Nat.le_of_ble_eq_true rfl⟩) hK hy (hP.sub (ws' := tw a k (kX T (X 0) (sNx T (X 0) p)) T) [0, 1] rfl) (hD.sub (ws' := tw a k (kX T (X 0) (sNx T (X 0) p)) T) [0, 1] (by decide) rfl) hS 0 1 rfl rfl rfl rfl hl.1 rfl (Nat.le_of_ble_eq_true rfl) dX1_readGuard_39 ⟨Nat.zero_le _, Nat.zero_le _⟩ (fun r _ H1 locs hp hP1 hS hfr => ?_)
      obtain rfl : r = bI (decide (sKd T (X 0) (sNx T (X 0) (sNx T (X 0) p)) = 3)) := hp
      have hP1 : va_P D vwCl (tw a k (kX T (X 0) (sNx T (X 0) (sNx T (X 0) p))) T) H1 := hP1
      have hP : va_P D vwCl (tw a k (kX T (X 0) (sNx T (X 0) (sNx T (X 0) p))) T ++ (bw a 9 k (nset F 2 ((M 2) ||| (2 ^ (sVl T (X 0) (sNx T (X 0) p))))) E)) H1 := wJn (w1 := tw a k (kX T (X 0) (sNx T (X 0) (sNx T (X 0) p))) T) (wc := tw a k (kX T (X 0) (sNx T (X 0) p)) T) hP hD [0, 1] rfl rfl hP1 hfr
      generalize H1 = H at hP hS ⊢
      have hD : va_D (wA (tw a k (kX T (X 0) p) T ++ (bw a 9 k F E))) (tw a k (kX T (X 0) (sNx T (X 0) (sNx T (X 0) p))) T ++ (bw a 9 k (nset F 2 ((M 2) ||| (2 ^ (sVl T (X 0) (sNx T (X 0) p))))) E)) := hD.same rfl
      have eS : sRG T (X 0) p M = (true, sNx T (X 0) (sNx T (X 0) p), nset M 2 (M 2 ||| 2 ^ (sVl T (X 0) (sNx T (X 0) p)))) := by rw [sRG, if_pos ⟨hn13.1, by omega, fun z => by rw [Nat.testBit_eq_decide_div_mod_eq, decide_eq_true z] at c_21; cases c_21⟩]
      have hP : va_P D vwCl (tw a k (kX T (X 0) ((sRG T (X 0) p M).2.1)) T ++ (bw a 9 k (nset F 2 ((M 2) ||| (2 ^ (sVl T (X 0) (sNx T (X 0) p))))) E)) H := by rw [eS]; exact hP
      exact wr_zret hz hr hlk dX1_readGuard_42 hS (rfl) ((⟨nset F 2 ((M 2) ||| (2 ^ (sVl T (X 0) (sNx T (X 0) p)))), E⟩ : (Nat → Nat) × (Nat → Nat → Nat))) hP (⟨by rw [eS]; rfl, fun _ => by rw [eS]; exact hR.guard _⟩)
    · refine lv_iconst (v := nI 0) hz.1 hz.2.1 dX1_readGuard_24 (by decide) ?_
      have eS : sRG T (X 0) p M = (false, sNx T (X 0) p, M) := by rw [sRG, if_neg (fun z => z.2.2 (by rw [Nat.testBit_eq_decide_div_mod_eq] at c_21; exact of_decide_eq_true c_21))]
      have hP : va_P D vwCl (tw a k (kX T (X 0) ((sRG T (X 0) p M).2.1)) T ++ (bw a 9 k F E)) H := by rw [eS]; exact hP
      exact wr_zret hz hr hlk dX1_readGuard_25 hS (bI_0 (z := false) rfl) ((⟨F, E⟩ : (Nat → Nat) × (Nat → Nat → Nat))) hP (⟨by rw [eS]; rfl, fun h => by rw [eS] at h; cases h⟩)

theorem hinX1_readWind_X0 : ∀ w ∈ wsX00, w ∈ wsX1_readWind := fun _ h => List.mem_cons_of_mem _ (List.mem_append_left _ (List.mem_append_right _ h))
theorem hinX1_readWind_X1 : ∀ w ∈ wsX10, w ∈ wsX1_readWind := fun _ h => List.mem_cons_of_mem _ (List.mem_append_right _ h)
set_option maxHeartbeats 4000000 in
set_option maxRecDepth 100000 in
theorem c1_readWind (l_ : Launch) (D : va_G) (k : Nat → ClassId) (a : Nat → Nat) (tS : Nat) (sk sv : Nat → Nat) (X : Nat → Nat) (T : Nat → Nat) (F : Nat → Nat) (E : Nat → Nat → Nat) (p : Nat) (M : Nat → Nat)  (hL : X 0 ≤ 200) (hT : ∀ j, T j < 256) (hp : p ≤ X 0) (hR : Rb M F E) (hf : Wf M) : Met l_ yX1_readWind wsX1_readWind ({ frames := 3, cells := 0, slots := 0, locals := 65 }) (va_Pc [.ref (a 35), .ref (a 9)] (wH (Am tS sk sv) D k (tw a k (kX T (X 0) p) T ++ (bw a 9 k F E)))) (va_Qi (fun (r : Int32) (u : (Nat → Nat) × (Nat → Nat → Nat)) => r = bI (kOK T (X 0) (sRD T (X 0) p M)) ∧ ((sRD T (X 0) p M).1 = true → Rb (sRD T (X 0) p M).2.2 u.1 u.2)) (fun (u : (Nat → Nat) × (Nat → Nat → Nat)) (t_ : State) => va_P D vwCl ((fun (u : (Nat → Nat) × (Nat → Nat → Nat)) => tw a k (kX T (X 0) ((sRD T (X 0) p M).2.1)) T ++ (bw a 9 k u.1 u.2)) u) t_.heap) (wA (tw a k (kX T (X 0) p) T ++ (bw a 9 k F E)))) 0 0 (wA (tw a k (kX T (X 0) p) T ++ (bw a 9 k F E))) := by
  refine my_entry (cc := cX1_readWind) (maxL := 4) (ret := some .boolean) (by decide) rfl (Nat.le_of_ble_eq_true rfl) ?_
  intro p_ e_ s_ m_ bl_ me_ c_ hz hr hlk hB ls hl
  obtain ⟨hP, hK, hD0, hy⟩ := hB
  have hD := wA.self hD0
  have hS : va_S (wA (tw a k (kX T (X 0) p) T ++ (bw a 9 k F E))) s_.heap s_.heap [] := va_S.rf
  have hl : lv_has ls 4 [(0, .ref (a 35)), (1, .ref (a 9))] := hl
  have hx1 := sNx_in (T := T) hp
  have hx2 := sNx_in (T := T) hx1.2.1
  have hx3 := sNx_in (T := T) hx2.2.1
  have hx4 := sNx_in (T := T) hx3.2.1
  have f0 := hf.n2
  have f1 := hf.n9
  have f2 := hf.fr
  have f3 := hf.gd
  have f4 := hf.pc
  have f5 := hf.wc
  have e0 : F 0 = M 0 := hR.1.1
  have e1 : F 1 = M 1 := hR.1.2.1
  have e2 : F 2 = M 2 := hR.1.2.2.1
  have e3 : F 3 = M 19 := hR.1.2.2.2.1
  have e4 : F 4 = M 32 := hR.1.2.2.2.2
  refine lv_aload_n hz.1 hz.2.1 dX1_readWind_0 rfl (lv_at hl 1 rfl) ?_
  refine rg (T := TX0) (N := 12) hz hinX1_readWind_X0 hK hP 2 rfl rfl 3 (by decide) (List.mem_of_getElem? (i := 1) rfl) rfl (v := .int (nI (F 3))) rfl dX1_readWind_1 ?_
  refine toe (z := nI (M 19)) (by rw [hR.1.2.2.2.1]) ?_
  refine lv_bipush (v := nI 6) hz.1 hz.2.1 dX1_readWind_4 (by decide) ?_
  refine jlt (tgt := 11) hz dX1_readWind_6 (by decide) (by omega) (by omega) (fun c_6 => ?_) (fun c_6 => ?_)
  · refine lv_aload_n hz.1 hz.2.1 dX1_readWind_11 rfl (lv_at hl 0 rfl) ?_
    refine lv_iconst (v := nI 0) hz.1 hz.2.1 dX1_readWind_12 (by decide) ?_
    refine lv_bipush (v := nI 59) hz.1 hz.2.1 dX1_readWind_13 (by decide) ?_
    refine wrV (A := wA (tw a k (kX T (X 0) p) T ++ (bw a 9 k F E))) (As := [.int (nI 0), .int (nI 59)]) (rest := []) hz (okAm tS sk sv) (c1_nextNumber l_ D k a tS sk sv X T p 0 59 hL hT (by omega) (by omega) (by omega)) (cwV 2 hz.2.2.2.2 gX1_readWind_X1_nextNumber rfl rfl rfl (by decide +kernel) ⟨Nat.le_of_ble_eq_true rfl, Nat.le_of_ble_eq_true rfl⟩) hK hy (hP.sub (ws' := tw a k (kX T (X 0) p) T) [0, 1] rfl) (hD.sub (ws' := tw a k (kX T (X 0) p) T) [0, 1] (by decide) rfl) hS 0 1 rfl rfl rfl rfl hl.1 rfl (Nat.le_of_ble_eq_true rfl) dX1_readWind_15 ⟨Nat.zero_le _, Nat.zero_le _⟩ (fun r _ H1 locs hp hP1 hS hfr => ?_)
    obtain rfl : r = oI (kNum T (X 0) (sNx T (X 0) p) 0 59) := hp
    have hP1 : va_P D vwCl (tw a k (kX T (X 0) (sNx T (X 0) p)) T) H1 := hP1
    have hP : va_P D vwCl (tw a k (kX T (X 0) (sNx T (X 0) p)) T ++ (bw a 9 k F E)) H1 := wJn (w1 := tw a k (kX T (X 0) (sNx T (X 0) p)) T) (wc := tw a k (kX T (X 0) p) T) hP hD [0, 1] rfl rfl hP1 hfr
    generalize H1 = H at hP hS ⊢
    have hD : va_D (wA (tw a k (kX T (X 0) p) T ++ (bw a 9 k F E))) (tw a k (kX T (X 0) (sNx T (X 0) p)) T ++ (bw a 9 k F E)) := hD.same rfl
    refine lv_istore_n (lv' := [(2, .int (oI (kNum T (X 0) (sNx T (X 0) p) 0 59))), (0, .ref (a 35)), (1, .ref (a 9))]) hz.1 hz.2.1 dX1_readWind_18 rfl hl (by decide) rfl (fun ls hl => ?_)
    refine lv_iload_n hz.1 hz.2.1 dX1_readWind_19 rfl (lv_at hl 0 rfl) ?_
    refine lv_if_ge (tgt := 27) hz.1 hz.2.1 dX1_readWind_20 (by decide) (fun c_20 => ?_) (fun c_20 => ?_)
    · have hn20 : sNum T (X 0) (sNx T (X 0) p) 0 59 := kNum_ge (le_lt0 c_20)
      have hv20 := hn20.2.2
      rw [kNum_s hn20] at hl
      have hl : lv_has ls 4 [(2, .int (nI (sVl T (X 0) (sNx T (X 0) p)))), (0, .ref (a 35)), (1, .ref (a 9))] := hl
      refine lv_aload_n hz.1 hz.2.1 dX1_readWind_27 rfl (lv_at hl 1 rfl) ?_
      refine lv_iconst (v := nI 0) hz.1 hz.2.1 dX1_readWind_28 (by decide) ?_
      refine lv_aload_n hz.1 hz.2.1 dX1_readWind_29 rfl (lv_at hl 2 rfl) ?_
      refine rdV (A := wA (tw a k (kX T (X 0) p) T ++ (bw a 9 k F E))) (As := []) (rest := [.int (nI 0), .ref (a 35)]) hz (okAm tS sk sv) (c0_wireCount l_ D k a 9 tS sk sv F E M  hR hf) (cwV 0 hz.2.2.2.2 gX1_readWind_X0_wireCount rfl rfl rfl (by decide +kernel) ⟨Nat.le_of_ble_eq_true rfl, Nat.le_of_ble_eq_true rfl⟩) hK hy (hP.sub (ws' := bw a 9 k F E) [2, 3, 4, 5, 6, 7, 8, 9] rfl) (hD.sub (ws' := bw a 9 k F E) [2, 3, 4, 5, 6, 7, 8, 9] (by decide) rfl) hS 0 0 rfl rfl rfl rfl hl.1 rfl (Nat.le_of_ble_eq_true rfl) dX1_readWind_30 ⟨Nat.zero_le _, Nat.zero_le _⟩ ?_
      refine lv_iconst (v := nI 1) hz.1 hz.2.1 dX1_readWind_33 (by decide) ?_
      refine lv_isub hz.1 hz.2.1 dX1_readWind_34 ?_
      refine toe (z := nI (M 0 - 2)) (by rw [pk_sub (by omega), Nat.sub_sub]) ?_
      refine wrV (A := wA (tw a k (kX T (X 0) p) T ++ (bw a 9 k F E))) (As := [.int (nI 0), .int (nI (M 0 - 2))]) (rest := []) hz (okAm tS sk sv) (c1_nextNumber l_ D k a tS sk sv X T (sNx T (X 0) p) 0 (M 0 - 2) hL hT (by omega) (by omega) (by omega)) (cwV 2 hz.2.2.2.2 gX1_readWind_X1_nextNumber rfl rfl rfl (by decide +kernel) ⟨Nat.le_of_ble_eq_true rfl, Nat.le_of_ble_eq_true rfl⟩) hK hy (hP.sub (ws' := tw a k (kX T (X 0) (sNx T (X 0) p)) T) [0, 1] rfl) (hD.sub (ws' := tw a k (kX T (X 0) (sNx T (X 0) p)) T) [0, 1] (by decide) rfl) hS 0 1 rfl rfl rfl rfl hl.1 rfl (Nat.le_of_ble_eq_true rfl) dX1_readWind_35 ⟨Nat.zero_le _, Nat.zero_le _⟩ (fun r _ H1 locs hp hP1 hS hfr => ?_)
      obtain rfl : r = oI (kNum T (X 0) (sNx T (X 0) (sNx T (X 0) p)) 0 (M 0 - 2)) := hp
      have hP1 : va_P D vwCl (tw a k (kX T (X 0) (sNx T (X 0) (sNx T (X 0) p))) T) H1 := hP1
      have hP : va_P D vwCl (tw a k (kX T (X 0) (sNx T (X 0) (sNx T (X 0) p))) T ++ (bw a 9 k F E)) H1 := wJn (w1 := tw a k (kX T (X 0) (sNx T (X 0) (sNx T (X 0) p))) T) (wc := tw a k (kX T (X 0) (sNx T (X 0) p)) T) hP hD [0, 1] rfl rfl hP1 hfr
      generalize H1 = H at hP hS ⊢
      have hD : va_D (wA (tw a k (kX T (X 0) p) T ++ (bw a 9 k F E))) (tw a k (kX T (X 0) (sNx T (X 0) (sNx T (X 0) p))) T ++ (bw a 9 k F E)) := hD.same rfl
      refine lv_istore_n (lv' := [(3, .int (oI (kNum T (X 0) (sNx T (X 0) (sNx T (X 0) p)) 0 (M 0 - 2)))), (2, .int (nI (sVl T (X 0) (sNx T (X 0) p)))), (0, .ref (a 35)), (1, .ref (a 9))]) hz.1 hz.2.1 dX1_readWind_38 rfl hl (by decide) rfl (fun ls hl => ?_)
      refine lv_iload_n hz.1 hz.2.1 dX1_readWind_39 rfl (lv_at hl 0 rfl) ?_
      refine lv_if_ge (tgt := 45) hz.1 hz.2.1 dX1_readWind_40 (by decide) (fun c_40 => ?_) (fun c_40 => ?_)
      · have hn40 : sNum T (X 0) (sNx T (X 0) (sNx T (X 0) p)) 0 (M 0 - 2) := kNum_ge (le_lt0 c_40)
        have hv40 := hn40.2.2
        rw [kNum_s hn40] at hl
        have hl : lv_has ls 4 [(3, .int (nI (sVl T (X 0) (sNx T (X 0) (sNx T (X 0) p))))), (2, .int (nI (sVl T (X 0) (sNx T (X 0) p)))), (0, .ref (a 35)), (1, .ref (a 9))] := hl
        refine lv_aload_n hz.1 hz.2.1 dX1_readWind_45 rfl (lv_at hl 3 rfl) ?_
        refine lv_iload_n hz.1 hz.2.1 dX1_readWind_46 rfl (lv_at hl 1 rfl) ?_
        refine lv_iload_n hz.1 hz.2.1 dX1_readWind_47 rfl (lv_at hl 0 rfl) ?_
        refine wrVv (A := wA (tw a k (kX T (X 0) p) T ++ (bw a 9 k F E))) (As := [.int (nI (sVl T (X 0) (sNx T (X 0) p))), .int (nI (sVl T (X 0) (sNx T (X 0) (sNx T (X 0) p))))]) (rest := []) hz (okAm tS sk sv) (c0_addWind l_ D k a 9 tS sk sv F E  (sVl T (X 0) (sNx T (X 0) p)) (sVl T (X 0) (sNx T (X 0) (sNx T (X 0) p))) (by omega)) (cwV 2 hz.2.2.2.2 gX1_readWind_X0_addWind rfl rfl rfl (by decide +kernel) ⟨Nat.le_of_ble_eq_true rfl, Nat.le_of_ble_eq_true rfl⟩) hK hy (hP.sub (ws' := bw a 9 k F E) [2, 3, 4, 5, 6, 7, 8, 9] rfl) (hD.sub (ws' := bw a 9 k F E) [2, 3, 4, 5, 6, 7, 8, 9] (by decide) rfl) hS 0 0 rfl rfl rfl rfl hl.1 rfl (Nat.le_of_ble_eq_true rfl) dX1_readWind_48 ⟨Nat.zero_le _, Nat.zero_le _⟩ (fun _ H1 locs hp hP1 hS hfr => ?_)
        have hP1 : va_P D vwCl (bw a 9 k (nset F 3 (F 3 + 1)) (gset (gset E 2 (nset (E 2) (F 3) (sVl T (X 0) (sNx T (X 0) p)))) 3 (nset (E 3) (F 3) (sVl T (X 0) (sNx T (X 0) (sNx T (X 0) p)))))) H1 := hP1
        have hP : va_P D vwCl (tw a k (kX T (X 0) (sNx T (X 0) (sNx T (X 0) p))) T ++ (bw a 9 k (nset F 3 (F 3 + 1)) (gset (gset E 2 (nset (E 2) (F 3) (sVl T (X 0) (sNx T (X 0) p)))) 3 (nset (E 3) (F 3) (sVl T (X 0) (sNx T (X 0) (sNx T (X 0) p))))))) H1 := wJn (w1 := bw a 9 k (nset F 3 (F 3 + 1)) (gset (gset E 2 (nset (E 2) (F 3) (sVl T (X 0) (sNx T (X 0) p)))) 3 (nset (E 3) (F 3) (sVl T (X 0) (sNx T (X 0) (sNx T (X 0) p)))))) (wc := bw a 9 k F E) hP hD [2, 3, 4, 5, 6, 7, 8, 9] rfl rfl hP1 hfr
        generalize H1 = H at hP hS ⊢
        have hD : va_D (wA (tw a k (kX T (X 0) p) T ++ (bw a 9 k F E))) (tw a k (kX T (X 0) (sNx T (X 0) (sNx T (X 0) p))) T ++ (bw a 9 k (nset F 3 (F 3 + 1)) (gset (gset E 2 (nset (E 2) (F 3) (sVl T (X 0) (sNx T (X 0) p)))) 3 (nset (E 3) (F 3) (sVl T (X 0) (sNx T (X 0) (sNx T (X 0) p))))))) := hD.same rfl
        refine lv_aload_n hz.1 hz.2.1 dX1_readWind_51 rfl (lv_at hl 2 rfl) ?_
        refine wrV (A := wA (tw a k (kX T (X 0) p) T ++ (bw a 9 k F E))) (As := []) (rest := []) hz (okAm tS sk sv) (c1_nextStop l_ D k a tS sk sv X T (sNx T (X 0) (sNx T (X 0) p))  hL hT (by omega)) (cwV 0 hz.2.2.2.2 gX1_readWind_X1_nextStop rfl rfl rfl (by decide +kernel) ⟨Nat.le_of_ble_eq_true rfl, Nat.le_of_ble_eq_true rfl⟩) hK hy (hP.sub (ws' := tw a k (kX T (X 0) (sNx T (X 0) (sNx T (X 0) p))) T) [0, 1] rfl) (hD.sub (ws' := tw a k (kX T (X 0) (sNx T (X 0) (sNx T (X 0) p))) T) [0, 1] (by decide) rfl) hS 0 1 rfl rfl rfl rfl hl.1 rfl (Nat.le_of_ble_eq_true rfl) dX1_readWind_52 ⟨Nat.zero_le _, Nat.zero_le _⟩ (fun r _ H1 locs hp hP1 hS hfr => ?_)
        obtain rfl : r = bI (decide (sKd T (X 0) (sNx T (X 0) (sNx T (X 0) (sNx T (X 0) p))) = 3)) := hp
        have hP1 : va_P D vwCl (tw a k (kX T (X 0) (sNx T (X 0) (sNx T (X 0) (sNx T (X 0) p)))) T) H1 := hP1
        have hP : va_P D vwCl (tw a k (kX T (X 0) (sNx T (X 0) (sNx T (X 0) (sNx T (X 0) p)))) T ++ (bw a 9 k (nset F 3 (F 3 + 1)) (gset (gset E 2 (nset (E 2) (F 3) (sVl T (X 0) (sNx T (X 0) p)))) 3 (nset (E 3) (F 3) (sVl T (X 0) (sNx T (X 0) (sNx T (X 0) p))))))) H1 := wJn (w1 := tw a k (kX T (X 0) (sNx T (X 0) (sNx T (X 0) (sNx T (X 0) p)))) T) (wc := tw a k (kX T (X 0) (sNx T (X 0) (sNx T (X 0) p))) T) hP hD [0, 1] rfl rfl hP1 hfr
        generalize H1 = H at hP hS ⊢
        have hD : va_D (wA (tw a k (kX T (X 0) p) T ++ (bw a 9 k F E))) (tw a k (kX T (X 0) (sNx T (X 0) (sNx T (X 0) (sNx T (X 0) p)))) T ++ (bw a 9 k (nset F 3 (F 3 + 1)) (gset (gset E 2 (nset (E 2) (F 3) (sVl T (X 0) (sNx T (X 0) p)))) 3 (nset (E 3) (F 3) (sVl T (X 0) (sNx T (X 0) (sNx T (X 0) p))))))) := hD.same rfl
        have eS : sRD T (X 0) p M = (true, sNx T (X 0) (sNx T (X 0) (sNx T (X 0) p)), sAddWind M (sVl T (X 0) (sNx T (X 0) p)) (sVl T (X 0) (sNx T (X 0) (sNx T (X 0) p)))) := by rw [sRD, if_neg (show ¬ M 19 = 6 by omega), if_pos hn20, if_pos hn40]
        have hP : va_P D vwCl (tw a k (kX T (X 0) ((sRD T (X 0) p M).2.1)) T ++ (bw a 9 k (nset F 3 (F 3 + 1)) (gset (gset E 2 (nset (E 2) (F 3) (sVl T (X 0) (sNx T (X 0) p)))) 3 (nset (E 3) (F 3) (sVl T (X 0) (sNx T (X 0) (sNx T (X 0) p))))))) H := by rw [eS]; exact hP
        exact wr_zret hz hr hlk dX1_readWind_55 hS (rfl) ((⟨nset F 3 (F 3 + 1), gset (gset E 2 (nset (E 2) (F 3) (sVl T (X 0) (sNx T (X 0) p)))) 3 (nset (E 3) (F 3) (sVl T (X 0) (sNx T (X 0) (sNx T (X 0) p))))⟩ : (Nat → Nat) × (Nat → Nat → Nat))) hP (⟨by rw [eS]; rfl, fun _ => by rw [eS]; exact hR.addWind (by omega) _ _⟩)
      · have hn40 : ¬ sNum T (X 0) (sNx T (X 0) (sNx T (X 0) p)) 0 (M 0 - 2) := kNum_no hT (nle_lt0 c_40)
        refine lv_iconst (v := nI 0) hz.1 hz.2.1 dX1_readWind_43 (by decide) ?_
        have eS : sRD T (X 0) p M = (false, sNx T (X 0) (sNx T (X 0) p), M) := by rw [sRD, if_neg (show ¬ M 19 = 6 by omega), if_pos hn20, if_neg hn40]
        have hP : va_P D vwCl (tw a k (kX T (X 0) ((sRD T (X 0) p M).2.1)) T ++ (bw a 9 k F E)) H := by rw [eS]; exact hP
        exact wr_zret hz hr hlk dX1_readWind_44 hS (bI_0 (z := false) rfl) ((⟨F, E⟩ : (Nat → Nat) × (Nat → Nat → Nat))) hP (⟨by rw [eS]; rfl, fun h => by rw [eS] at h; cases h⟩)
    · have hn20 : ¬ sNum T (X 0) (sNx T (X 0) p) 0 59 := kNum_no hT (nle_lt0 c_20)
      refine lv_iconst (v := (-1)) hz.1 hz.2.1 dX1_readWind_23 (by decide) ?_
      refine lv_goto (tgt := 38) hz.1 hz.2.1 dX1_readWind_24 (by decide) ?_
      refine lv_istore_n (lv' := [(3, .int (-1)), (2, .int (oI (kNum T (X 0) (sNx T (X 0) p) 0 59))), (0, .ref (a 35)), (1, .ref (a 9))]) hz.1 hz.2.1 dX1_readWind_38 rfl hl (by decide) rfl (fun ls hl => ?_)
      refine lv_iload_n hz.1 hz.2.1 dX1_readWind_39 rfl (lv_at hl 0 rfl) ?_
      refine lv_if_ge (tgt := 45) hz.1 hz.2.1 dX1_readWind_40 (by decide) (fun c_40 => ?_) (fun c_40 => ?_)
      · exact absurd c_40 (by decide)
      · refine lv_iconst (v := nI 0) hz.1 hz.2.1 dX1_readWind_43 (by decide) ?_
        have eS : sRD T (X 0) p M = (false, sNx T (X 0) p, M) := by rw [sRD, if_neg (show ¬ M 19 = 6 by omega), if_neg hn20]
        have hP : va_P D vwCl (tw a k (kX T (X 0) ((sRD T (X 0) p M).2.1)) T ++ (bw a 9 k F E)) H := by rw [eS]; exact hP
        exact wr_zret hz hr hlk dX1_readWind_44 hS (bI_0 (z := false) rfl) ((⟨F, E⟩ : (Nat → Nat) × (Nat → Nat → Nat))) hP (⟨by rw [eS]; rfl, fun h => by rw [eS] at h; cases h⟩)
  · refine lv_iconst (v := nI 0) hz.1 hz.2.1 dX1_readWind_9 (by decide) ?_
    have eS : sRD T (X 0) p M = (false, p, M) := by rw [sRD, if_pos (by omega)]
    have hP : va_P D vwCl (tw a k (kX T (X 0) ((sRD T (X 0) p M).2.1)) T ++ (bw a 9 k F E)) s_.heap := by rw [eS]; exact hP
    exact wr_zret hz hr hlk dX1_readWind_10 hS (bI_0 (z := false) rfl) ((⟨F, E⟩ : (Nat → Nat) × (Nat → Nat → Nat))) hP (⟨by rw [eS]; rfl, fun h => by rw [eS] at h; cases h⟩)

theorem hinX1_readWire_X0 : ∀ w ∈ wsX00, w ∈ wsX1_readWire := fun _ h => List.mem_cons_of_mem _ (List.mem_append_left _ (List.mem_append_right _ h))
theorem hinX1_readWire_X1 : ∀ w ∈ wsX10, w ∈ wsX1_readWire := fun _ h => List.mem_cons_of_mem _ (List.mem_append_right _ h)
set_option maxHeartbeats 4000000 in
set_option maxRecDepth 100000 in
theorem c1_readWire (l_ : Launch) (D : va_G) (k : Nat → ClassId) (a : Nat → Nat) (tS : Nat) (sk sv : Nat → Nat) (X : Nat → Nat) (T : Nat → Nat) (F : Nat → Nat) (E : Nat → Nat → Nat) (p : Nat) (M : Nat → Nat)  (hL : X 0 ≤ 200) (hT : ∀ j, T j < 256) (hp : p ≤ X 0) (hR : Rb M F E) (hf : Wf M) : Met l_ yX1_readWire wsX1_readWire ({ frames := 3, cells := 0, slots := 0, locals := 65 }) (va_Pc [.ref (a 35), .ref (a 9)] (wH (Am tS sk sv) D k (tw a k (kX T (X 0) p) T ++ (bw a 9 k F E)))) (va_Qi (fun (r : Int32) (u : (Nat → Nat) × (Nat → Nat → Nat)) => r = bI (kOK T (X 0) (sRW T (X 0) p M)) ∧ ((sRW T (X 0) p M).1 = true → Rb (sRW T (X 0) p M).2.2 u.1 u.2)) (fun (u : (Nat → Nat) × (Nat → Nat → Nat)) (t_ : State) => va_P D vwCl ((fun (u : (Nat → Nat) × (Nat → Nat → Nat)) => tw a k (kX T (X 0) ((sRW T (X 0) p M).2.1)) T ++ (bw a 9 k u.1 u.2)) u) t_.heap) (wA (tw a k (kX T (X 0) p) T ++ (bw a 9 k F E)))) 0 0 (wA (tw a k (kX T (X 0) p) T ++ (bw a 9 k F E))) := by
  refine my_entry (cc := cX1_readWire) (maxL := 5) (ret := some .boolean) (by decide) rfl (Nat.le_of_ble_eq_true rfl) ?_
  intro p_ e_ s_ m_ bl_ me_ c_ hz hr hlk hB ls hl
  obtain ⟨hP, hK, hD0, hy⟩ := hB
  have hD := wA.self hD0
  have hS : va_S (wA (tw a k (kX T (X 0) p) T ++ (bw a 9 k F E))) s_.heap s_.heap [] := va_S.rf
  have hl : lv_has ls 5 [(0, .ref (a 35)), (1, .ref (a 9))] := hl
  have hx1 := sNx_in (T := T) hp
  have hx2 := sNx_in (T := T) hx1.2.1
  have hx3 := sNx_in (T := T) hx2.2.1
  have hx4 := sNx_in (T := T) hx3.2.1
  have f0 := hf.n2
  have f1 := hf.n9
  have f2 := hf.fr
  have f3 := hf.gd
  have f4 := hf.pc
  have f5 := hf.wc
  have e0 : F 0 = M 0 := hR.1.1
  have e1 : F 1 = M 1 := hR.1.2.1
  have e2 : F 2 = M 2 := hR.1.2.2.1
  have e3 : F 3 = M 19 := hR.1.2.2.2.1
  have e4 : F 4 = M 32 := hR.1.2.2.2.2
  refine lv_aload_n hz.1 hz.2.1 dX1_readWire_0 rfl (lv_at hl 0 rfl) ?_
  refine lv_iconst (v := nI 0) hz.1 hz.2.1 dX1_readWire_1 (by decide) ?_
  refine lv_aload_n hz.1 hz.2.1 dX1_readWire_2 rfl (lv_at hl 1 rfl) ?_
  refine rdV (A := wA (tw a k (kX T (X 0) p) T ++ (bw a 9 k F E))) (As := []) (rest := [.int (nI 0), .ref (a 35)]) hz (okAm tS sk sv) (c0_wireCount l_ D k a 9 tS sk sv F E M  hR hf) (cwV 0 hz.2.2.2.2 gX1_readWire_X0_wireCount rfl rfl rfl (by decide +kernel) ⟨Nat.le_of_ble_eq_true rfl, Nat.le_of_ble_eq_true rfl⟩) hK hy (hP.sub (ws' := bw a 9 k F E) [2, 3, 4, 5, 6, 7, 8, 9] rfl) (hD.sub (ws' := bw a 9 k F E) [2, 3, 4, 5, 6, 7, 8, 9] (by decide) rfl) hS 0 0 rfl rfl rfl rfl hl.1 rfl (Nat.le_of_ble_eq_true rfl) dX1_readWire_3 ⟨Nat.zero_le _, Nat.zero_le _⟩ ?_
  refine lv_iconst (v := nI 1) hz.1 hz.2.1 dX1_readWire_6 (by decide) ?_
  refine lv_isub hz.1 hz.2.1 dX1_readWire_7 ?_
  refine toe (z := nI (M 0 - 2)) (by rw [pk_sub (by omega), Nat.sub_sub]) ?_
  refine wrV (A := wA (tw a k (kX T (X 0) p) T ++ (bw a 9 k F E))) (As := [.int (nI 0), .int (nI (M 0 - 2))]) (rest := []) hz (okAm tS sk sv) (c1_nextNumber l_ D k a tS sk sv X T p 0 (M 0 - 2) hL hT (by omega) (by omega) (by omega)) (cwV 2 hz.2.2.2.2 gX1_readWire_X1_nextNumber rfl rfl rfl (by decide +kernel) ⟨Nat.le_of_ble_eq_true rfl, Nat.le_of_ble_eq_true rfl⟩) hK hy (hP.sub (ws' := tw a k (kX T (X 0) p) T) [0, 1] rfl) (hD.sub (ws' := tw a k (kX T (X 0) p) T) [0, 1] (by decide) rfl) hS 0 1 rfl rfl rfl rfl hl.1 rfl (Nat.le_of_ble_eq_true rfl) dX1_readWire_8 ⟨Nat.zero_le _, Nat.zero_le _⟩ (fun r _ H1 locs hp hP1 hS hfr => ?_)
  obtain rfl : r = oI (kNum T (X 0) (sNx T (X 0) p) 0 (M 0 - 2)) := hp
  have hP1 : va_P D vwCl (tw a k (kX T (X 0) (sNx T (X 0) p)) T) H1 := hP1
  have hP : va_P D vwCl (tw a k (kX T (X 0) (sNx T (X 0) p)) T ++ (bw a 9 k F E)) H1 := wJn (w1 := tw a k (kX T (X 0) (sNx T (X 0) p)) T) (wc := tw a k (kX T (X 0) p) T) hP hD [0, 1] rfl rfl hP1 hfr
  generalize H1 = H at hP hS ⊢
  have hD : va_D (wA (tw a k (kX T (X 0) p) T ++ (bw a 9 k F E))) (tw a k (kX T (X 0) (sNx T (X 0) p)) T ++ (bw a 9 k F E)) := hD.same rfl
  refine lv_istore_n (lv' := [(2, .int (oI (kNum T (X 0) (sNx T (X 0) p) 0 (M 0 - 2)))), (0, .ref (a 35)), (1, .ref (a 9))]) hz.1 hz.2.1 dX1_readWire_11 rfl hl (by decide) rfl (fun ls hl => ?_)
  refine lv_iload_n hz.1 hz.2.1 dX1_readWire_12 rfl (lv_at hl 0 rfl) ?_
  refine lv_if_ge (tgt := 20) hz.1 hz.2.1 dX1_readWire_13 (by decide) (fun c_13 => ?_) (fun c_13 => ?_)
  · have hn13 : sNum T (X 0) (sNx T (X 0) p) 0 (M 0 - 2) := kNum_ge (le_lt0 c_13)
    have hv13 := hn13.2.2
    rw [kNum_s hn13] at hl
    have hl : lv_has ls 5 [(2, .int (nI (sVl T (X 0) (sNx T (X 0) p)))), (0, .ref (a 35)), (1, .ref (a 9))] := hl
    refine lv_aload_n hz.1 hz.2.1 dX1_readWire_20 rfl (lv_at hl 1 rfl) ?_
    refine lv_iconst (v := nI 0) hz.1 hz.2.1 dX1_readWire_21 (by decide) ?_
    refine lv_iconst (v := nI 4) hz.1 hz.2.1 dX1_readWire_22 (by decide) ?_
    refine wrV (A := wA (tw a k (kX T (X 0) p) T ++ (bw a 9 k F E))) (As := [.int (nI 0), .int (nI 4)]) (rest := []) hz (okAm tS sk sv) (c1_nextNumber l_ D k a tS sk sv X T (sNx T (X 0) p) 0 4 hL hT (by omega) (by omega) (by omega)) (cwV 2 hz.2.2.2.2 gX1_readWire_X1_nextNumber rfl rfl rfl (by decide +kernel) ⟨Nat.le_of_ble_eq_true rfl, Nat.le_of_ble_eq_true rfl⟩) hK hy (hP.sub (ws' := tw a k (kX T (X 0) (sNx T (X 0) p)) T) [0, 1] rfl) (hD.sub (ws' := tw a k (kX T (X 0) (sNx T (X 0) p)) T) [0, 1] (by decide) rfl) hS 0 1 rfl rfl rfl rfl hl.1 rfl (Nat.le_of_ble_eq_true rfl) dX1_readWire_23 ⟨Nat.zero_le _, Nat.zero_le _⟩ (fun r _ H1 locs hp hP1 hS hfr => ?_)
    obtain rfl : r = oI (kNum T (X 0) (sNx T (X 0) (sNx T (X 0) p)) 0 4) := hp
    have hP1 : va_P D vwCl (tw a k (kX T (X 0) (sNx T (X 0) (sNx T (X 0) p))) T) H1 := hP1
    have hP : va_P D vwCl (tw a k (kX T (X 0) (sNx T (X 0) (sNx T (X 0) p))) T ++ (bw a 9 k F E)) H1 := wJn (w1 := tw a k (kX T (X 0) (sNx T (X 0) (sNx T (X 0) p))) T) (wc := tw a k (kX T (X 0) (sNx T (X 0) p)) T) hP hD [0, 1] rfl rfl hP1 hfr
    generalize H1 = H at hP hS ⊢
    have hD : va_D (wA (tw a k (kX T (X 0) p) T ++ (bw a 9 k F E))) (tw a k (kX T (X 0) (sNx T (X 0) (sNx T (X 0) p))) T ++ (bw a 9 k F E)) := hD.same rfl
    refine lv_istore_n (lv' := [(3, .int (oI (kNum T (X 0) (sNx T (X 0) (sNx T (X 0) p)) 0 4))), (2, .int (nI (sVl T (X 0) (sNx T (X 0) p)))), (0, .ref (a 35)), (1, .ref (a 9))]) hz.1 hz.2.1 dX1_readWire_26 rfl hl (by decide) rfl (fun ls hl => ?_)
    refine lv_iload_n hz.1 hz.2.1 dX1_readWire_27 rfl (lv_at hl 0 rfl) ?_
    refine lv_if_ge (tgt := 35) hz.1 hz.2.1 dX1_readWire_28 (by decide) (fun c_28 => ?_) (fun c_28 => ?_)
    · have hn28 : sNum T (X 0) (sNx T (X 0) (sNx T (X 0) p)) 0 4 := kNum_ge (le_lt0 c_28)
      have hv28 := hn28.2.2
      rw [kNum_s hn28] at hl
      have hl : lv_has ls 5 [(3, .int (nI (sVl T (X 0) (sNx T (X 0) (sNx T (X 0) p))))), (2, .int (nI (sVl T (X 0) (sNx T (X 0) p)))), (0, .ref (a 35)), (1, .ref (a 9))] := hl
      refine lv_aload_n hz.1 hz.2.1 dX1_readWire_35 rfl (lv_at hl 2 rfl) ?_
      refine lv_iconst (v := nI 0) hz.1 hz.2.1 dX1_readWire_36 (by decide) ?_
      refine lv_bipush (v := nI 11) hz.1 hz.2.1 dX1_readWire_37 (by decide) ?_
      refine wrV (A := wA (tw a k (kX T (X 0) p) T ++ (bw a 9 k F E))) (As := [.int (nI 0), .int (nI 11)]) (rest := []) hz (okAm tS sk sv) (c1_nextNumber l_ D k a tS sk sv X T (sNx T (X 0) (sNx T (X 0) p)) 0 11 hL hT (by omega) (by omega) (by omega)) (cwV 2 hz.2.2.2.2 gX1_readWire_X1_nextNumber rfl rfl rfl (by decide +kernel) ⟨Nat.le_of_ble_eq_true rfl, Nat.le_of_ble_eq_true rfl⟩) hK hy (hP.sub (ws' := tw a k (kX T (X 0) (sNx T (X 0) (sNx T (X 0) p))) T) [0, 1] rfl) (hD.sub (ws' := tw a k (kX T (X 0) (sNx T (X 0) (sNx T (X 0) p))) T) [0, 1] (by decide) rfl) hS 0 1 rfl rfl rfl rfl hl.1 rfl (Nat.le_of_ble_eq_true rfl) dX1_readWire_39 ⟨Nat.zero_le _, Nat.zero_le _⟩ (fun r _ H1 locs hp hP1 hS hfr => ?_)
      obtain rfl : r = oI (kNum T (X 0) (sNx T (X 0) (sNx T (X 0) (sNx T (X 0) p))) 0 11) := hp
      have hP1 : va_P D vwCl (tw a k (kX T (X 0) (sNx T (X 0) (sNx T (X 0) (sNx T (X 0) p)))) T) H1 := hP1
      have hP : va_P D vwCl (tw a k (kX T (X 0) (sNx T (X 0) (sNx T (X 0) (sNx T (X 0) p)))) T ++ (bw a 9 k F E)) H1 := wJn (w1 := tw a k (kX T (X 0) (sNx T (X 0) (sNx T (X 0) (sNx T (X 0) p)))) T) (wc := tw a k (kX T (X 0) (sNx T (X 0) (sNx T (X 0) p))) T) hP hD [0, 1] rfl rfl hP1 hfr
      generalize H1 = H at hP hS ⊢
      have hD : va_D (wA (tw a k (kX T (X 0) p) T ++ (bw a 9 k F E))) (tw a k (kX T (X 0) (sNx T (X 0) (sNx T (X 0) (sNx T (X 0) p)))) T ++ (bw a 9 k F E)) := hD.same rfl
      refine lv_istore (lv' := [(4, .int (oI (kNum T (X 0) (sNx T (X 0) (sNx T (X 0) (sNx T (X 0) p))) 0 11))), (3, .int (nI (sVl T (X 0) (sNx T (X 0) (sNx T (X 0) p))))), (2, .int (nI (sVl T (X 0) (sNx T (X 0) p)))), (0, .ref (a 35)), (1, .ref (a 9))]) hz.1 hz.2.1 dX1_readWire_42 hl (by decide) rfl (fun ls hl => ?_)
      refine lv_iload hz.1 hz.2.1 dX1_readWire_44 (lv_at hl 0 rfl) ?_
      refine lv_if_ge (tgt := 51) hz.1 hz.2.1 dX1_readWire_46 (by decide) (fun c_46 => ?_) (fun c_46 => ?_)
      · have hn46 : sNum T (X 0) (sNx T (X 0) (sNx T (X 0) (sNx T (X 0) p))) 0 11 := kNum_ge (le_lt0 c_46)
        have hv46 := hn46.2.2
        rw [kNum_s hn46] at hl
        have hl : lv_has ls 5 [(4, .int (nI (sVl T (X 0) (sNx T (X 0) (sNx T (X 0) (sNx T (X 0) p)))))), (3, .int (nI (sVl T (X 0) (sNx T (X 0) (sNx T (X 0) p))))), (2, .int (nI (sVl T (X 0) (sNx T (X 0) p)))), (0, .ref (a 35)), (1, .ref (a 9))] := hl
        refine lv_aload_n hz.1 hz.2.1 dX1_readWire_51 rfl (lv_at hl 4 rfl) ?_
        refine lv_iload_n hz.1 hz.2.1 dX1_readWire_52 rfl (lv_at hl 2 rfl) ?_
        refine lv_iload_n hz.1 hz.2.1 dX1_readWire_53 rfl (lv_at hl 1 rfl) ?_
        refine lv_iload hz.1 hz.2.1 dX1_readWire_54 (lv_at hl 0 rfl) ?_
        refine wrVv (A := wA (tw a k (kX T (X 0) p) T ++ (bw a 9 k F E))) (As := [.int (nI (sVl T (X 0) (sNx T (X 0) p))), .int (nI (sVl T (X 0) (sNx T (X 0) (sNx T (X 0) p)))), .int (nI (sVl T (X 0) (sNx T (X 0) (sNx T (X 0) (sNx T (X 0) p)))))]) (rest := []) hz (okAm tS sk sv) (c0_stringWire l_ D k a 9 tS sk sv F E  (sVl T (X 0) (sNx T (X 0) p)) (sVl T (X 0) (sNx T (X 0) (sNx T (X 0) p))) (sVl T (X 0) (sNx T (X 0) (sNx T (X 0) (sNx T (X 0) p)))) (by omega)) (cwV 3 hz.2.2.2.2 gX1_readWire_X0_stringWire rfl rfl rfl (by decide +kernel) ⟨Nat.le_of_ble_eq_true rfl, Nat.le_of_ble_eq_true rfl⟩) hK hy (hP.sub (ws' := bw a 9 k F E) [2, 3, 4, 5, 6, 7, 8, 9] rfl) (hD.sub (ws' := bw a 9 k F E) [2, 3, 4, 5, 6, 7, 8, 9] (by decide) rfl) hS 0 0 rfl rfl rfl rfl hl.1 rfl (Nat.le_of_ble_eq_true rfl) dX1_readWire_56 ⟨Nat.zero_le _, Nat.zero_le _⟩ (fun _ H1 locs hp hP1 hS hfr => ?_)
        have hP1 : va_P D vwCl (bw a 9 k F (gset (gset E 0 (nset (E 0) (sVl T (X 0) (sNx T (X 0) p)) (sVl T (X 0) (sNx T (X 0) (sNx T (X 0) p))))) 1 (nset (E 1) (sVl T (X 0) (sNx T (X 0) p)) (sVl T (X 0) (sNx T (X 0) (sNx T (X 0) (sNx T (X 0) p))))))) H1 := hP1
        have hP : va_P D vwCl (tw a k (kX T (X 0) (sNx T (X 0) (sNx T (X 0) (sNx T (X 0) p)))) T ++ (bw a 9 k F (gset (gset E 0 (nset (E 0) (sVl T (X 0) (sNx T (X 0) p)) (sVl T (X 0) (sNx T (X 0) (sNx T (X 0) p))))) 1 (nset (E 1) (sVl T (X 0) (sNx T (X 0) p)) (sVl T (X 0) (sNx T (X 0) (sNx T (X 0) (sNx T (X 0) p)))))))) H1 := wJn (w1 := bw a 9 k F (gset (gset E 0 (nset (E 0) (sVl T (X 0) (sNx T (X 0) p)) (sVl T (X 0) (sNx T (X 0) (sNx T (X 0) p))))) 1 (nset (E 1) (sVl T (X 0) (sNx T (X 0) p)) (sVl T (X 0) (sNx T (X 0) (sNx T (X 0) (sNx T (X 0) p))))))) (wc := bw a 9 k F E) hP hD [2, 3, 4, 5, 6, 7, 8, 9] rfl rfl hP1 hfr
        generalize H1 = H at hP hS ⊢
        have hD : va_D (wA (tw a k (kX T (X 0) p) T ++ (bw a 9 k F E))) (tw a k (kX T (X 0) (sNx T (X 0) (sNx T (X 0) (sNx T (X 0) p)))) T ++ (bw a 9 k F (gset (gset E 0 (nset (E 0) (sVl T (X 0) (sNx T (X 0) p)) (sVl T (X 0) (sNx T (X 0) (sNx T (X 0) p))))) 1 (nset (E 1) (sVl T (X 0) (sNx T (X 0) p)) (sVl T (X 0) (sNx T (X 0) (sNx T (X 0) (sNx T (X 0) p)))))))) := hD.same rfl
        refine lv_aload_n hz.1 hz.2.1 dX1_readWire_59 rfl (lv_at hl 3 rfl) ?_
        refine wrV (A := wA (tw a k (kX T (X 0) p) T ++ (bw a 9 k F E))) (As := []) (rest := []) hz (okAm tS sk sv) (c1_nextStop l_ D k a tS sk sv X T (sNx T (X 0) (sNx T (X 0) (sNx T (X 0) p)))  hL hT (by omega)) (cwV 0 hz.2.2.2.2 gX1_readWire_X1_nextStop rfl rfl rfl (by decide +kernel) ⟨Nat.le_of_ble_eq_true rfl, Nat.le_of_ble_eq_true rfl⟩) hK hy (hP.sub (ws' := tw a k (kX T (X 0) (sNx T (X 0) (sNx T (X 0) (sNx T (X 0) p)))) T) [0, 1] rfl) (hD.sub (ws' := tw a k (kX T (X 0) (sNx T (X 0) (sNx T (X 0) (sNx T (X 0) p)))) T) [0, 1] (by decide) rfl) hS 0 1 rfl rfl rfl rfl hl.1 rfl (Nat.le_of_ble_eq_true rfl) dX1_readWire_60 ⟨Nat.zero_le _, Nat.zero_le _⟩ (fun r _ H1 locs hp hP1 hS hfr => ?_)
        obtain rfl : r = bI (decide (sKd T (X 0) (sNx T (X 0) (sNx T (X 0) (sNx T (X 0) (sNx T (X 0) p)))) = 3)) := hp
        have hP1 : va_P D vwCl (tw a k (kX T (X 0) (sNx T (X 0) (sNx T (X 0) (sNx T (X 0) (sNx T (X 0) p))))) T) H1 := hP1
        have hP : va_P D vwCl (tw a k (kX T (X 0) (sNx T (X 0) (sNx T (X 0) (sNx T (X 0) (sNx T (X 0) p))))) T ++ (bw a 9 k F (gset (gset E 0 (nset (E 0) (sVl T (X 0) (sNx T (X 0) p)) (sVl T (X 0) (sNx T (X 0) (sNx T (X 0) p))))) 1 (nset (E 1) (sVl T (X 0) (sNx T (X 0) p)) (sVl T (X 0) (sNx T (X 0) (sNx T (X 0) (sNx T (X 0) p)))))))) H1 := wJn (w1 := tw a k (kX T (X 0) (sNx T (X 0) (sNx T (X 0) (sNx T (X 0) (sNx T (X 0) p))))) T) (wc := tw a k (kX T (X 0) (sNx T (X 0) (sNx T (X 0) (sNx T (X 0) p)))) T) hP hD [0, 1] rfl rfl hP1 hfr
        generalize H1 = H at hP hS ⊢
        have hD : va_D (wA (tw a k (kX T (X 0) p) T ++ (bw a 9 k F E))) (tw a k (kX T (X 0) (sNx T (X 0) (sNx T (X 0) (sNx T (X 0) (sNx T (X 0) p))))) T ++ (bw a 9 k F (gset (gset E 0 (nset (E 0) (sVl T (X 0) (sNx T (X 0) p)) (sVl T (X 0) (sNx T (X 0) (sNx T (X 0) p))))) 1 (nset (E 1) (sVl T (X 0) (sNx T (X 0) p)) (sVl T (X 0) (sNx T (X 0) (sNx T (X 0) (sNx T (X 0) p)))))))) := hD.same rfl
        have eS : sRW T (X 0) p M = (true, sNx T (X 0) (sNx T (X 0) (sNx T (X 0) (sNx T (X 0) p))), sWire M (sVl T (X 0) (sNx T (X 0) p)) (sVl T (X 0) (sNx T (X 0) (sNx T (X 0) p))) (sVl T (X 0) (sNx T (X 0) (sNx T (X 0) (sNx T (X 0) p))))) := by rw [sRW, if_pos hn13, if_pos hn28, if_pos hn46]
        have hP : va_P D vwCl (tw a k (kX T (X 0) ((sRW T (X 0) p M).2.1)) T ++ (bw a 9 k F (gset (gset E 0 (nset (E 0) (sVl T (X 0) (sNx T (X 0) p)) (sVl T (X 0) (sNx T (X 0) (sNx T (X 0) p))))) 1 (nset (E 1) (sVl T (X 0) (sNx T (X 0) p)) (sVl T (X 0) (sNx T (X 0) (sNx T (X 0) (sNx T (X 0) p)))))))) H := by rw [eS]; exact hP
        exact wr_zret hz hr hlk dX1_readWire_63 hS (rfl) ((⟨F, gset (gset E 0 (nset (E 0) (sVl T (X 0) (sNx T (X 0) p)) (sVl T (X 0) (sNx T (X 0) (sNx T (X 0) p))))) 1 (nset (E 1) (sVl T (X 0) (sNx T (X 0) p)) (sVl T (X 0) (sNx T (X 0) (sNx T (X 0) (sNx T (X 0) p)))))⟩ : (Nat → Nat) × (Nat → Nat → Nat))) hP (⟨by rw [eS]; rfl, fun _ => by rw [eS]; exact hR.wire (by omega) (by omega) _ _⟩)
      · have hn46 : ¬ sNum T (X 0) (sNx T (X 0) (sNx T (X 0) (sNx T (X 0) p))) 0 11 := kNum_no hT (nle_lt0 c_46)
        refine lv_iconst (v := nI 0) hz.1 hz.2.1 dX1_readWire_49 (by decide) ?_
        have eS : sRW T (X 0) p M = (false, sNx T (X 0) (sNx T (X 0) (sNx T (X 0) p)), M) := by rw [sRW, if_pos hn13, if_pos hn28, if_neg hn46]
        have hP : va_P D vwCl (tw a k (kX T (X 0) ((sRW T (X 0) p M).2.1)) T ++ (bw a 9 k F E)) H := by rw [eS]; exact hP
        exact wr_zret hz hr hlk dX1_readWire_50 hS (bI_0 (z := false) rfl) ((⟨F, E⟩ : (Nat → Nat) × (Nat → Nat → Nat))) hP (⟨by rw [eS]; rfl, fun h => by rw [eS] at h; cases h⟩)
    · have hn28 : ¬ sNum T (X 0) (sNx T (X 0) (sNx T (X 0) p)) 0 4 := kNum_no hT (nle_lt0 c_28)
      refine lv_iconst (v := (-1)) hz.1 hz.2.1 dX1_readWire_31 (by decide) ?_
      refine lv_goto (tgt := 42) hz.1 hz.2.1 dX1_readWire_32 (by decide) ?_
      refine lv_istore (lv' := [(4, .int (-1)), (3, .int (oI (kNum T (X 0) (sNx T (X 0) (sNx T (X 0) p)) 0 4))), (2, .int (nI (sVl T (X 0) (sNx T (X 0) p)))), (0, .ref (a 35)), (1, .ref (a 9))]) hz.1 hz.2.1 dX1_readWire_42 hl (by decide) rfl (fun ls hl => ?_)
      refine lv_iload hz.1 hz.2.1 dX1_readWire_44 (lv_at hl 0 rfl) ?_
      refine lv_if_ge (tgt := 51) hz.1 hz.2.1 dX1_readWire_46 (by decide) (fun c_46 => ?_) (fun c_46 => ?_)
      · exact absurd c_46 (by decide)
      · refine lv_iconst (v := nI 0) hz.1 hz.2.1 dX1_readWire_49 (by decide) ?_
        have eS : sRW T (X 0) p M = (false, sNx T (X 0) (sNx T (X 0) p), M) := by rw [sRW, if_pos hn13, if_neg hn28]
        have hP : va_P D vwCl (tw a k (kX T (X 0) ((sRW T (X 0) p M).2.1)) T ++ (bw a 9 k F E)) H := by rw [eS]; exact hP
        exact wr_zret hz hr hlk dX1_readWire_50 hS (bI_0 (z := false) rfl) ((⟨F, E⟩ : (Nat → Nat) × (Nat → Nat → Nat))) hP (⟨by rw [eS]; rfl, fun h => by rw [eS] at h; cases h⟩)
  · have hn13 : ¬ sNum T (X 0) (sNx T (X 0) p) 0 (M 0 - 2) := kNum_no hT (nle_lt0 c_13)
    refine lv_iconst (v := (-1)) hz.1 hz.2.1 dX1_readWire_16 (by decide) ?_
    refine lv_goto (tgt := 26) hz.1 hz.2.1 dX1_readWire_17 (by decide) ?_
    refine lv_istore_n (lv' := [(3, .int (-1)), (2, .int (oI (kNum T (X 0) (sNx T (X 0) p) 0 (M 0 - 2)))), (0, .ref (a 35)), (1, .ref (a 9))]) hz.1 hz.2.1 dX1_readWire_26 rfl hl (by decide) rfl (fun ls hl => ?_)
    refine lv_iload_n hz.1 hz.2.1 dX1_readWire_27 rfl (lv_at hl 0 rfl) ?_
    refine lv_if_ge (tgt := 35) hz.1 hz.2.1 dX1_readWire_28 (by decide) (fun c_28 => ?_) (fun c_28 => ?_)
    · exact absurd c_28 (by decide)
    · refine lv_iconst (v := (-1)) hz.1 hz.2.1 dX1_readWire_31 (by decide) ?_
      refine lv_goto (tgt := 42) hz.1 hz.2.1 dX1_readWire_32 (by decide) ?_
      refine lv_istore (lv' := [(4, .int (-1)), (3, .int (-1)), (2, .int (oI (kNum T (X 0) (sNx T (X 0) p) 0 (M 0 - 2)))), (0, .ref (a 35)), (1, .ref (a 9))]) hz.1 hz.2.1 dX1_readWire_42 hl (by decide) rfl (fun ls hl => ?_)
      refine lv_iload hz.1 hz.2.1 dX1_readWire_44 (lv_at hl 0 rfl) ?_
      refine lv_if_ge (tgt := 51) hz.1 hz.2.1 dX1_readWire_46 (by decide) (fun c_46 => ?_) (fun c_46 => ?_)
      · exact absurd c_46 (by decide)
      · refine lv_iconst (v := nI 0) hz.1 hz.2.1 dX1_readWire_49 (by decide) ?_
        have eS : sRW T (X 0) p M = (false, sNx T (X 0) p, M) := by rw [sRW, if_neg hn13]
        have hP : va_P D vwCl (tw a k (kX T (X 0) ((sRW T (X 0) p M).2.1)) T ++ (bw a 9 k F E)) H := by rw [eS]; exact hP
        exact wr_zret hz hr hlk dX1_readWire_50 hS (bI_0 (z := false) rfl) ((⟨F, E⟩ : (Nat → Nat) × (Nat → Nat → Nat))) hP (⟨by rw [eS]; rfl, fun h => by rw [eS] at h; cases h⟩)

theorem hinX1_readPass_X0 : ∀ w ∈ wsX00, w ∈ wsX1_readPass := fun _ h => List.mem_cons_of_mem _ (List.mem_append_left _ (List.mem_append_right _ h))
theorem hinX1_readPass_X1 : ∀ w ∈ wsX10, w ∈ wsX1_readPass := fun _ h => List.mem_cons_of_mem _ (List.mem_append_right _ h)
set_option maxHeartbeats 4000000 in
set_option maxRecDepth 100000 in
theorem c1_readPass (l_ : Launch) (D : va_G) (k : Nat → ClassId) (a : Nat → Nat) (tS : Nat) (sk sv : Nat → Nat) (X : Nat → Nat) (T : Nat → Nat) (F : Nat → Nat) (E : Nat → Nat → Nat) (p : Nat) (M : Nat → Nat)  (hL : X 0 ≤ 200) (hT : ∀ j, T j < 256) (hp : p ≤ X 0) (hR : Rb M F E) (hf : Wf M) : Met l_ yX1_readPass wsX1_readPass ({ frames := 3, cells := 0, slots := 0, locals := 65 }) (va_Pc [.ref (a 35), .ref (a 9)] (wH (Am tS sk sv) D k (tw a k (kX T (X 0) p) T ++ (bw a 9 k F E)))) (va_Qi (fun (r : Int32) (u : (Nat → Nat) × (Nat → Nat → Nat)) => r = bI (kOK T (X 0) (sRP T (X 0) p M)) ∧ ((sRP T (X 0) p M).1 = true → Rb (sRP T (X 0) p M).2.2 u.1 u.2)) (fun (u : (Nat → Nat) × (Nat → Nat → Nat)) (t_ : State) => va_P D vwCl ((fun (u : (Nat → Nat) × (Nat → Nat → Nat)) => tw a k (kX T (X 0) ((sRP T (X 0) p M).2.1)) T ++ (bw a 9 k u.1 u.2)) u) t_.heap) (wA (tw a k (kX T (X 0) p) T ++ (bw a 9 k F E)))) 0 0 (wA (tw a k (kX T (X 0) p) T ++ (bw a 9 k F E))) := by
  refine my_entry (cc := cX1_readPass) (maxL := 5) (ret := some .boolean) (by decide) rfl (Nat.le_of_ble_eq_true rfl) ?_
  intro p_ e_ s_ m_ bl_ me_ c_ hz hr hlk hB ls hl
  obtain ⟨hP, hK, hD0, hy⟩ := hB
  have hD := wA.self hD0
  have hS : va_S (wA (tw a k (kX T (X 0) p) T ++ (bw a 9 k F E))) s_.heap s_.heap [] := va_S.rf
  have hl : lv_has ls 5 [(0, .ref (a 35)), (1, .ref (a 9))] := hl
  have hx1 := sNx_in (T := T) hp
  have hx2 := sNx_in (T := T) hx1.2.1
  have hx3 := sNx_in (T := T) hx2.2.1
  have hx4 := sNx_in (T := T) hx3.2.1
  have f0 := hf.n2
  have f1 := hf.n9
  have f2 := hf.fr
  have f3 := hf.gd
  have f4 := hf.pc
  have f5 := hf.wc
  have e0 : F 0 = M 0 := hR.1.1
  have e1 : F 1 = M 1 := hR.1.2.1
  have e2 : F 2 = M 2 := hR.1.2.2.1
  have e3 : F 3 = M 19 := hR.1.2.2.2.1
  have e4 : F 4 = M 32 := hR.1.2.2.2.2
  refine lv_aload_n hz.1 hz.2.1 dX1_readPass_0 rfl (lv_at hl 1 rfl) ?_
  refine rg (T := TX0) (N := 12) hz hinX1_readPass_X0 hK hP 2 rfl rfl 4 (by decide) (List.mem_of_getElem? (i := 1) rfl) rfl (v := .int (nI (F 4))) rfl dX1_readPass_1 ?_
  refine toe (z := nI (M 32)) (by rw [hR.1.2.2.2.2]) ?_
  refine lv_bipush (v := nI 8) hz.1 hz.2.1 dX1_readPass_4 (by decide) ?_
  refine jlt (tgt := 11) hz dX1_readPass_6 (by decide) (by omega) (by omega) (fun c_6 => ?_) (fun c_6 => ?_)
  · refine lv_aload_n hz.1 hz.2.1 dX1_readPass_11 rfl (lv_at hl 0 rfl) ?_
    refine lv_iconst (v := nI 0) hz.1 hz.2.1 dX1_readPass_12 (by decide) ?_
    refine lv_bipush (v := nI 59) hz.1 hz.2.1 dX1_readPass_13 (by decide) ?_
    refine wrV (A := wA (tw a k (kX T (X 0) p) T ++ (bw a 9 k F E))) (As := [.int (nI 0), .int (nI 59)]) (rest := []) hz (okAm tS sk sv) (c1_nextNumber l_ D k a tS sk sv X T p 0 59 hL hT (by omega) (by omega) (by omega)) (cwV 2 hz.2.2.2.2 gX1_readPass_X1_nextNumber rfl rfl rfl (by decide +kernel) ⟨Nat.le_of_ble_eq_true rfl, Nat.le_of_ble_eq_true rfl⟩) hK hy (hP.sub (ws' := tw a k (kX T (X 0) p) T) [0, 1] rfl) (hD.sub (ws' := tw a k (kX T (X 0) p) T) [0, 1] (by decide) rfl) hS 0 1 rfl rfl rfl rfl hl.1 rfl (Nat.le_of_ble_eq_true rfl) dX1_readPass_15 ⟨Nat.zero_le _, Nat.zero_le _⟩ (fun r _ H1 locs hp hP1 hS hfr => ?_)
    obtain rfl : r = oI (kNum T (X 0) (sNx T (X 0) p) 0 59) := hp
    have hP1 : va_P D vwCl (tw a k (kX T (X 0) (sNx T (X 0) p)) T) H1 := hP1
    have hP : va_P D vwCl (tw a k (kX T (X 0) (sNx T (X 0) p)) T ++ (bw a 9 k F E)) H1 := wJn (w1 := tw a k (kX T (X 0) (sNx T (X 0) p)) T) (wc := tw a k (kX T (X 0) p) T) hP hD [0, 1] rfl rfl hP1 hfr
    generalize H1 = H at hP hS ⊢
    have hD : va_D (wA (tw a k (kX T (X 0) p) T ++ (bw a 9 k F E))) (tw a k (kX T (X 0) (sNx T (X 0) p)) T ++ (bw a 9 k F E)) := hD.same rfl
    refine lv_istore_n (lv' := [(2, .int (oI (kNum T (X 0) (sNx T (X 0) p) 0 59))), (0, .ref (a 35)), (1, .ref (a 9))]) hz.1 hz.2.1 dX1_readPass_18 rfl hl (by decide) rfl (fun ls hl => ?_)
    refine lv_iload_n hz.1 hz.2.1 dX1_readPass_19 rfl (lv_at hl 0 rfl) ?_
    refine lv_if_ge (tgt := 27) hz.1 hz.2.1 dX1_readPass_20 (by decide) (fun c_20 => ?_) (fun c_20 => ?_)
    · have hn20 : sNum T (X 0) (sNx T (X 0) p) 0 59 := kNum_ge (le_lt0 c_20)
      have hv20 := hn20.2.2
      rw [kNum_s hn20] at hl
      have hl : lv_has ls 5 [(2, .int (nI (sVl T (X 0) (sNx T (X 0) p)))), (0, .ref (a 35)), (1, .ref (a 9))] := hl
      refine lv_aload_n hz.1 hz.2.1 dX1_readPass_27 rfl (lv_at hl 1 rfl) ?_
      refine lv_iconst (v := nI 0) hz.1 hz.2.1 dX1_readPass_28 (by decide) ?_
      refine lv_aload_n hz.1 hz.2.1 dX1_readPass_29 rfl (lv_at hl 2 rfl) ?_
      refine rdV (A := wA (tw a k (kX T (X 0) p) T ++ (bw a 9 k F E))) (As := []) (rest := [.int (nI 0), .ref (a 35)]) hz (okAm tS sk sv) (c0_wireCount l_ D k a 9 tS sk sv F E M  hR hf) (cwV 0 hz.2.2.2.2 gX1_readPass_X0_wireCount rfl rfl rfl (by decide +kernel) ⟨Nat.le_of_ble_eq_true rfl, Nat.le_of_ble_eq_true rfl⟩) hK hy (hP.sub (ws' := bw a 9 k F E) [2, 3, 4, 5, 6, 7, 8, 9] rfl) (hD.sub (ws' := bw a 9 k F E) [2, 3, 4, 5, 6, 7, 8, 9] (by decide) rfl) hS 0 0 rfl rfl rfl rfl hl.1 rfl (Nat.le_of_ble_eq_true rfl) dX1_readPass_30 ⟨Nat.zero_le _, Nat.zero_le _⟩ ?_
      refine lv_iconst (v := nI 1) hz.1 hz.2.1 dX1_readPass_33 (by decide) ?_
      refine lv_isub hz.1 hz.2.1 dX1_readPass_34 ?_
      refine toe (z := nI (M 0 - 2)) (by rw [pk_sub (by omega), Nat.sub_sub]) ?_
      refine wrV (A := wA (tw a k (kX T (X 0) p) T ++ (bw a 9 k F E))) (As := [.int (nI 0), .int (nI (M 0 - 2))]) (rest := []) hz (okAm tS sk sv) (c1_nextNumber l_ D k a tS sk sv X T (sNx T (X 0) p) 0 (M 0 - 2) hL hT (by omega) (by omega) (by omega)) (cwV 2 hz.2.2.2.2 gX1_readPass_X1_nextNumber rfl rfl rfl (by decide +kernel) ⟨Nat.le_of_ble_eq_true rfl, Nat.le_of_ble_eq_true rfl⟩) hK hy (hP.sub (ws' := tw a k (kX T (X 0) (sNx T (X 0) p)) T) [0, 1] rfl) (hD.sub (ws' := tw a k (kX T (X 0) (sNx T (X 0) p)) T) [0, 1] (by decide) rfl) hS 0 1 rfl rfl rfl rfl hl.1 rfl (Nat.le_of_ble_eq_true rfl) dX1_readPass_35 ⟨Nat.zero_le _, Nat.zero_le _⟩ (fun r _ H1 locs hp hP1 hS hfr => ?_)
      obtain rfl : r = oI (kNum T (X 0) (sNx T (X 0) (sNx T (X 0) p)) 0 (M 0 - 2)) := hp
      have hP1 : va_P D vwCl (tw a k (kX T (X 0) (sNx T (X 0) (sNx T (X 0) p))) T) H1 := hP1
      have hP : va_P D vwCl (tw a k (kX T (X 0) (sNx T (X 0) (sNx T (X 0) p))) T ++ (bw a 9 k F E)) H1 := wJn (w1 := tw a k (kX T (X 0) (sNx T (X 0) (sNx T (X 0) p))) T) (wc := tw a k (kX T (X 0) (sNx T (X 0) p)) T) hP hD [0, 1] rfl rfl hP1 hfr
      generalize H1 = H at hP hS ⊢
      have hD : va_D (wA (tw a k (kX T (X 0) p) T ++ (bw a 9 k F E))) (tw a k (kX T (X 0) (sNx T (X 0) (sNx T (X 0) p))) T ++ (bw a 9 k F E)) := hD.same rfl
      refine lv_istore_n (lv' := [(3, .int (oI (kNum T (X 0) (sNx T (X 0) (sNx T (X 0) p)) 0 (M 0 - 2)))), (2, .int (nI (sVl T (X 0) (sNx T (X 0) p)))), (0, .ref (a 35)), (1, .ref (a 9))]) hz.1 hz.2.1 dX1_readPass_38 rfl hl (by decide) rfl (fun ls hl => ?_)
      refine lv_iload_n hz.1 hz.2.1 dX1_readPass_39 rfl (lv_at hl 0 rfl) ?_
      refine lv_if_ge (tgt := 47) hz.1 hz.2.1 dX1_readPass_40 (by decide) (fun c_40 => ?_) (fun c_40 => ?_)
      · have hn40 : sNum T (X 0) (sNx T (X 0) (sNx T (X 0) p)) 0 (M 0 - 2) := kNum_ge (le_lt0 c_40)
        have hv40 := hn40.2.2
        rw [kNum_s hn40] at hl
        have hl : lv_has ls 5 [(3, .int (nI (sVl T (X 0) (sNx T (X 0) (sNx T (X 0) p))))), (2, .int (nI (sVl T (X 0) (sNx T (X 0) p)))), (0, .ref (a 35)), (1, .ref (a 9))] := hl
        refine lv_aload_n hz.1 hz.2.1 dX1_readPass_47 rfl (lv_at hl 2 rfl) ?_
        refine lv_iconst (v := nI 0) hz.1 hz.2.1 dX1_readPass_48 (by decide) ?_
        refine lv_iconst (v := nI 3) hz.1 hz.2.1 dX1_readPass_49 (by decide) ?_
        refine wrV (A := wA (tw a k (kX T (X 0) p) T ++ (bw a 9 k F E))) (As := [.int (nI 0), .int (nI 3)]) (rest := []) hz (okAm tS sk sv) (c1_nextNumber l_ D k a tS sk sv X T (sNx T (X 0) (sNx T (X 0) p)) 0 3 hL hT (by omega) (by omega) (by omega)) (cwV 2 hz.2.2.2.2 gX1_readPass_X1_nextNumber rfl rfl rfl (by decide +kernel) ⟨Nat.le_of_ble_eq_true rfl, Nat.le_of_ble_eq_true rfl⟩) hK hy (hP.sub (ws' := tw a k (kX T (X 0) (sNx T (X 0) (sNx T (X 0) p))) T) [0, 1] rfl) (hD.sub (ws' := tw a k (kX T (X 0) (sNx T (X 0) (sNx T (X 0) p))) T) [0, 1] (by decide) rfl) hS 0 1 rfl rfl rfl rfl hl.1 rfl (Nat.le_of_ble_eq_true rfl) dX1_readPass_50 ⟨Nat.zero_le _, Nat.zero_le _⟩ (fun r _ H1 locs hp hP1 hS hfr => ?_)
        obtain rfl : r = oI (kNum T (X 0) (sNx T (X 0) (sNx T (X 0) (sNx T (X 0) p))) 0 3) := hp
        have hP1 : va_P D vwCl (tw a k (kX T (X 0) (sNx T (X 0) (sNx T (X 0) (sNx T (X 0) p)))) T) H1 := hP1
        have hP : va_P D vwCl (tw a k (kX T (X 0) (sNx T (X 0) (sNx T (X 0) (sNx T (X 0) p)))) T ++ (bw a 9 k F E)) H1 := wJn (w1 := tw a k (kX T (X 0) (sNx T (X 0) (sNx T (X 0) (sNx T (X 0) p)))) T) (wc := tw a k (kX T (X 0) (sNx T (X 0) (sNx T (X 0) p))) T) hP hD [0, 1] rfl rfl hP1 hfr
        generalize H1 = H at hP hS ⊢
        have hD : va_D (wA (tw a k (kX T (X 0) p) T ++ (bw a 9 k F E))) (tw a k (kX T (X 0) (sNx T (X 0) (sNx T (X 0) (sNx T (X 0) p)))) T ++ (bw a 9 k F E)) := hD.same rfl
        refine lv_istore (lv' := [(4, .int (oI (kNum T (X 0) (sNx T (X 0) (sNx T (X 0) (sNx T (X 0) p))) 0 3))), (3, .int (nI (sVl T (X 0) (sNx T (X 0) (sNx T (X 0) p))))), (2, .int (nI (sVl T (X 0) (sNx T (X 0) p)))), (0, .ref (a 35)), (1, .ref (a 9))]) hz.1 hz.2.1 dX1_readPass_53 hl (by decide) rfl (fun ls hl => ?_)
        refine lv_iload hz.1 hz.2.1 dX1_readPass_55 (lv_at hl 0 rfl) ?_
        refine lv_if_ge (tgt := 62) hz.1 hz.2.1 dX1_readPass_57 (by decide) (fun c_57 => ?_) (fun c_57 => ?_)
        · have hn57 : sNum T (X 0) (sNx T (X 0) (sNx T (X 0) (sNx T (X 0) p))) 0 3 := kNum_ge (le_lt0 c_57)
          have hv57 := hn57.2.2
          rw [kNum_s hn57] at hl
          have hl : lv_has ls 5 [(4, .int (nI (sVl T (X 0) (sNx T (X 0) (sNx T (X 0) (sNx T (X 0) p)))))), (3, .int (nI (sVl T (X 0) (sNx T (X 0) (sNx T (X 0) p))))), (2, .int (nI (sVl T (X 0) (sNx T (X 0) p)))), (0, .ref (a 35)), (1, .ref (a 9))] := hl
          refine lv_aload_n hz.1 hz.2.1 dX1_readPass_62 rfl (lv_at hl 4 rfl) ?_
          refine lv_iload_n hz.1 hz.2.1 dX1_readPass_63 rfl (lv_at hl 2 rfl) ?_
          refine lv_iload_n hz.1 hz.2.1 dX1_readPass_64 rfl (lv_at hl 1 rfl) ?_
          refine lv_iload hz.1 hz.2.1 dX1_readPass_65 (lv_at hl 0 rfl) ?_
          refine wrVv (A := wA (tw a k (kX T (X 0) p) T ++ (bw a 9 k F E))) (As := [.int (nI (sVl T (X 0) (sNx T (X 0) p))), .int (nI (sVl T (X 0) (sNx T (X 0) (sNx T (X 0) p)))), .int (nI (sVl T (X 0) (sNx T (X 0) (sNx T (X 0) (sNx T (X 0) p)))))]) (rest := []) hz (okAm tS sk sv) (c0_addPass l_ D k a 9 tS sk sv F E  (sVl T (X 0) (sNx T (X 0) p)) (sVl T (X 0) (sNx T (X 0) (sNx T (X 0) p))) (sVl T (X 0) (sNx T (X 0) (sNx T (X 0) (sNx T (X 0) p)))) (by omega)) (cwV 3 hz.2.2.2.2 gX1_readPass_X0_addPass rfl rfl rfl (by decide +kernel) ⟨Nat.le_of_ble_eq_true rfl, Nat.le_of_ble_eq_true rfl⟩) hK hy (hP.sub (ws' := bw a 9 k F E) [2, 3, 4, 5, 6, 7, 8, 9] rfl) (hD.sub (ws' := bw a 9 k F E) [2, 3, 4, 5, 6, 7, 8, 9] (by decide) rfl) hS 0 0 rfl rfl rfl rfl hl.1 rfl (Nat.le_of_ble_eq_true rfl) dX1_readPass_67 ⟨Nat.zero_le _, Nat.zero_le _⟩ (fun _ H1 locs hp hP1 hS hfr => ?_)
          have hP1 : va_P D vwCl (bw a 9 k (nset F 4 (F 4 + 1)) (gset (gset (gset E 4 (nset (E 4) (F 4) (sVl T (X 0) (sNx T (X 0) p)))) 5 (nset (E 5) (F 4) (sVl T (X 0) (sNx T (X 0) (sNx T (X 0) p))))) 6 (nset (E 6) (F 4) (sVl T (X 0) (sNx T (X 0) (sNx T (X 0) (sNx T (X 0) p))))))) H1 := hP1
          have hP : va_P D vwCl (tw a k (kX T (X 0) (sNx T (X 0) (sNx T (X 0) (sNx T (X 0) p)))) T ++ (bw a 9 k (nset F 4 (F 4 + 1)) (gset (gset (gset E 4 (nset (E 4) (F 4) (sVl T (X 0) (sNx T (X 0) p)))) 5 (nset (E 5) (F 4) (sVl T (X 0) (sNx T (X 0) (sNx T (X 0) p))))) 6 (nset (E 6) (F 4) (sVl T (X 0) (sNx T (X 0) (sNx T (X 0) (sNx T (X 0) p)))))))) H1 := wJn (w1 := bw a 9 k (nset F 4 (F 4 + 1)) (gset (gset (gset E 4 (nset (E 4) (F 4) (sVl T (X 0) (sNx T (X 0) p)))) 5 (nset (E 5) (F 4) (sVl T (X 0) (sNx T (X 0) (sNx T (X 0) p))))) 6 (nset (E 6) (F 4) (sVl T (X 0) (sNx T (X 0) (sNx T (X 0) (sNx T (X 0) p))))))) (wc := bw a 9 k F E) hP hD [2, 3, 4, 5, 6, 7, 8, 9] rfl rfl hP1 hfr
          generalize H1 = H at hP hS ⊢
          have hD : va_D (wA (tw a k (kX T (X 0) p) T ++ (bw a 9 k F E))) (tw a k (kX T (X 0) (sNx T (X 0) (sNx T (X 0) (sNx T (X 0) p)))) T ++ (bw a 9 k (nset F 4 (F 4 + 1)) (gset (gset (gset E 4 (nset (E 4) (F 4) (sVl T (X 0) (sNx T (X 0) p)))) 5 (nset (E 5) (F 4) (sVl T (X 0) (sNx T (X 0) (sNx T (X 0) p))))) 6 (nset (E 6) (F 4) (sVl T (X 0) (sNx T (X 0) (sNx T (X 0) (sNx T (X 0) p)))))))) := hD.same rfl
          refine lv_aload_n hz.1 hz.2.1 dX1_readPass_70 rfl (lv_at hl 3 rfl) ?_
          refine wrV (A := wA (tw a k (kX T (X 0) p) T ++ (bw a 9 k F E))) (As := []) (rest := []) hz (okAm tS sk sv) (c1_nextStop l_ D k a tS sk sv X T (sNx T (X 0) (sNx T (X 0) (sNx T (X 0) p)))  hL hT (by omega)) (cwV 0 hz.2.2.2.2 gX1_readPass_X1_nextStop rfl rfl rfl (by decide +kernel) ⟨Nat.le_of_ble_eq_true rfl, Nat.le_of_ble_eq_true rfl⟩) hK hy (hP.sub (ws' := tw a k (kX T (X 0) (sNx T (X 0) (sNx T (X 0) (sNx T (X 0) p)))) T) [0, 1] rfl) (hD.sub (ws' := tw a k (kX T (X 0) (sNx T (X 0) (sNx T (X 0) (sNx T (X 0) p)))) T) [0, 1] (by decide) rfl) hS 0 1 rfl rfl rfl rfl hl.1 rfl (Nat.le_of_ble_eq_true rfl) dX1_readPass_71 ⟨Nat.zero_le _, Nat.zero_le _⟩ (fun r _ H1 locs hp hP1 hS hfr => ?_)
          obtain rfl : r = bI (decide (sKd T (X 0) (sNx T (X 0) (sNx T (X 0) (sNx T (X 0) (sNx T (X 0) p)))) = 3)) := hp
          have hP1 : va_P D vwCl (tw a k (kX T (X 0) (sNx T (X 0) (sNx T (X 0) (sNx T (X 0) (sNx T (X 0) p))))) T) H1 := hP1
          have hP : va_P D vwCl (tw a k (kX T (X 0) (sNx T (X 0) (sNx T (X 0) (sNx T (X 0) (sNx T (X 0) p))))) T ++ (bw a 9 k (nset F 4 (F 4 + 1)) (gset (gset (gset E 4 (nset (E 4) (F 4) (sVl T (X 0) (sNx T (X 0) p)))) 5 (nset (E 5) (F 4) (sVl T (X 0) (sNx T (X 0) (sNx T (X 0) p))))) 6 (nset (E 6) (F 4) (sVl T (X 0) (sNx T (X 0) (sNx T (X 0) (sNx T (X 0) p)))))))) H1 := wJn (w1 := tw a k (kX T (X 0) (sNx T (X 0) (sNx T (X 0) (sNx T (X 0) (sNx T (X 0) p))))) T) (wc := tw a k (kX T (X 0) (sNx T (X 0) (sNx T (X 0) (sNx T (X 0) p)))) T) hP hD [0, 1] rfl rfl hP1 hfr
          generalize H1 = H at hP hS ⊢
          have hD : va_D (wA (tw a k (kX T (X 0) p) T ++ (bw a 9 k F E))) (tw a k (kX T (X 0) (sNx T (X 0) (sNx T (X 0) (sNx T (X 0) (sNx T (X 0) p))))) T ++ (bw a 9 k (nset F 4 (F 4 + 1)) (gset (gset (gset E 4 (nset (E 4) (F 4) (sVl T (X 0) (sNx T (X 0) p)))) 5 (nset (E 5) (F 4) (sVl T (X 0) (sNx T (X 0) (sNx T (X 0) p))))) 6 (nset (E 6) (F 4) (sVl T (X 0) (sNx T (X 0) (sNx T (X 0) (sNx T (X 0) p)))))))) := hD.same rfl
          have eS : sRP T (X 0) p M = (true, sNx T (X 0) (sNx T (X 0) (sNx T (X 0) (sNx T (X 0) p))), sAddPass M (sVl T (X 0) (sNx T (X 0) p)) (sVl T (X 0) (sNx T (X 0) (sNx T (X 0) p))) (sVl T (X 0) (sNx T (X 0) (sNx T (X 0) (sNx T (X 0) p))))) := by rw [sRP, if_neg (show ¬ M 32 = 8 by omega), if_pos hn20, if_pos hn40, if_pos hn57]
          have hP : va_P D vwCl (tw a k (kX T (X 0) ((sRP T (X 0) p M).2.1)) T ++ (bw a 9 k (nset F 4 (F 4 + 1)) (gset (gset (gset E 4 (nset (E 4) (F 4) (sVl T (X 0) (sNx T (X 0) p)))) 5 (nset (E 5) (F 4) (sVl T (X 0) (sNx T (X 0) (sNx T (X 0) p))))) 6 (nset (E 6) (F 4) (sVl T (X 0) (sNx T (X 0) (sNx T (X 0) (sNx T (X 0) p)))))))) H := by rw [eS]; exact hP
          exact wr_zret hz hr hlk dX1_readPass_74 hS (rfl) ((⟨nset F 4 (F 4 + 1), gset (gset (gset E 4 (nset (E 4) (F 4) (sVl T (X 0) (sNx T (X 0) p)))) 5 (nset (E 5) (F 4) (sVl T (X 0) (sNx T (X 0) (sNx T (X 0) p))))) 6 (nset (E 6) (F 4) (sVl T (X 0) (sNx T (X 0) (sNx T (X 0) (sNx T (X 0) p)))))⟩ : (Nat → Nat) × (Nat → Nat → Nat))) hP (⟨by rw [eS]; rfl, fun _ => by rw [eS]; exact hR.addPass (by omega) _ _ _⟩)
        · have hn57 : ¬ sNum T (X 0) (sNx T (X 0) (sNx T (X 0) (sNx T (X 0) p))) 0 3 := kNum_no hT (nle_lt0 c_57)
          refine lv_iconst (v := nI 0) hz.1 hz.2.1 dX1_readPass_60 (by decide) ?_
          have eS : sRP T (X 0) p M = (false, sNx T (X 0) (sNx T (X 0) (sNx T (X 0) p)), M) := by rw [sRP, if_neg (show ¬ M 32 = 8 by omega), if_pos hn20, if_pos hn40, if_neg hn57]
          have hP : va_P D vwCl (tw a k (kX T (X 0) ((sRP T (X 0) p M).2.1)) T ++ (bw a 9 k F E)) H := by rw [eS]; exact hP
          exact wr_zret hz hr hlk dX1_readPass_61 hS (bI_0 (z := false) rfl) ((⟨F, E⟩ : (Nat → Nat) × (Nat → Nat → Nat))) hP (⟨by rw [eS]; rfl, fun h => by rw [eS] at h; cases h⟩)
      · have hn40 : ¬ sNum T (X 0) (sNx T (X 0) (sNx T (X 0) p)) 0 (M 0 - 2) := kNum_no hT (nle_lt0 c_40)
        refine lv_iconst (v := (-1)) hz.1 hz.2.1 dX1_readPass_43 (by decide) ?_
        refine lv_goto (tgt := 53) hz.1 hz.2.1 dX1_readPass_44 (by decide) ?_
        refine lv_istore (lv' := [(4, .int (-1)), (3, .int (oI (kNum T (X 0) (sNx T (X 0) (sNx T (X 0) p)) 0 (M 0 - 2)))), (2, .int (nI (sVl T (X 0) (sNx T (X 0) p)))), (0, .ref (a 35)), (1, .ref (a 9))]) hz.1 hz.2.1 dX1_readPass_53 hl (by decide) rfl (fun ls hl => ?_)
        refine lv_iload hz.1 hz.2.1 dX1_readPass_55 (lv_at hl 0 rfl) ?_
        refine lv_if_ge (tgt := 62) hz.1 hz.2.1 dX1_readPass_57 (by decide) (fun c_57 => ?_) (fun c_57 => ?_)
        · exact absurd c_57 (by decide)
        · refine lv_iconst (v := nI 0) hz.1 hz.2.1 dX1_readPass_60 (by decide) ?_
          have eS : sRP T (X 0) p M = (false, sNx T (X 0) (sNx T (X 0) p), M) := by rw [sRP, if_neg (show ¬ M 32 = 8 by omega), if_pos hn20, if_neg hn40]
          have hP : va_P D vwCl (tw a k (kX T (X 0) ((sRP T (X 0) p M).2.1)) T ++ (bw a 9 k F E)) H := by rw [eS]; exact hP
          exact wr_zret hz hr hlk dX1_readPass_61 hS (bI_0 (z := false) rfl) ((⟨F, E⟩ : (Nat → Nat) × (Nat → Nat → Nat))) hP (⟨by rw [eS]; rfl, fun h => by rw [eS] at h; cases h⟩)
    · have hn20 : ¬ sNum T (X 0) (sNx T (X 0) p) 0 59 := kNum_no hT (nle_lt0 c_20)
      refine lv_iconst (v := (-1)) hz.1 hz.2.1 dX1_readPass_23 (by decide) ?_
      refine lv_goto (tgt := 38) hz.1 hz.2.1 dX1_readPass_24 (by decide) ?_
      refine lv_istore_n (lv' := [(3, .int (-1)), (2, .int (oI (kNum T (X 0) (sNx T (X 0) p) 0 59))), (0, .ref (a 35)), (1, .ref (a 9))]) hz.1 hz.2.1 dX1_readPass_38 rfl hl (by decide) rfl (fun ls hl => ?_)
      refine lv_iload_n hz.1 hz.2.1 dX1_readPass_39 rfl (lv_at hl 0 rfl) ?_
      refine lv_if_ge (tgt := 47) hz.1 hz.2.1 dX1_readPass_40 (by decide) (fun c_40 => ?_) (fun c_40 => ?_)
      · exact absurd c_40 (by decide)
      · refine lv_iconst (v := (-1)) hz.1 hz.2.1 dX1_readPass_43 (by decide) ?_
        refine lv_goto (tgt := 53) hz.1 hz.2.1 dX1_readPass_44 (by decide) ?_
        refine lv_istore (lv' := [(4, .int (-1)), (3, .int (-1)), (2, .int (oI (kNum T (X 0) (sNx T (X 0) p) 0 59))), (0, .ref (a 35)), (1, .ref (a 9))]) hz.1 hz.2.1 dX1_readPass_53 hl (by decide) rfl (fun ls hl => ?_)
        refine lv_iload hz.1 hz.2.1 dX1_readPass_55 (lv_at hl 0 rfl) ?_
        refine lv_if_ge (tgt := 62) hz.1 hz.2.1 dX1_readPass_57 (by decide) (fun c_57 => ?_) (fun c_57 => ?_)
        · exact absurd c_57 (by decide)
        · refine lv_iconst (v := nI 0) hz.1 hz.2.1 dX1_readPass_60 (by decide) ?_
          have eS : sRP T (X 0) p M = (false, sNx T (X 0) p, M) := by rw [sRP, if_neg (show ¬ M 32 = 8 by omega), if_neg hn20]
          have hP : va_P D vwCl (tw a k (kX T (X 0) ((sRP T (X 0) p M).2.1)) T ++ (bw a 9 k F E)) H := by rw [eS]; exact hP
          exact wr_zret hz hr hlk dX1_readPass_61 hS (bI_0 (z := false) rfl) ((⟨F, E⟩ : (Nat → Nat) × (Nat → Nat → Nat))) hP (⟨by rw [eS]; rfl, fun h => by rw [eS] at h; cases h⟩)
  · refine lv_iconst (v := nI 0) hz.1 hz.2.1 dX1_readPass_9 (by decide) ?_
    have eS : sRP T (X 0) p M = (false, p, M) := by rw [sRP, if_pos (by omega)]
    have hP : va_P D vwCl (tw a k (kX T (X 0) ((sRP T (X 0) p M).2.1)) T ++ (bw a 9 k F E)) s_.heap := by rw [eS]; exact hP
    exact wr_zret hz hr hlk dX1_readPass_10 hS (bI_0 (z := false) rfl) ((⟨F, E⟩ : (Nat → Nat) × (Nat → Nat → Nat))) hP (⟨by rw [eS]; rfl, fun h => by rw [eS] at h; cases h⟩)

theorem hinX1_readItem_X1 : ∀ w ∈ wsX10, w ∈ wsX1_readItem := fun _ h => List.mem_cons_of_mem _ (List.mem_append_left _ (List.mem_append_right _ h))
theorem hinX1_readItem_X0 : ∀ w ∈ wsX00, w ∈ wsX1_readItem := fun _ h => List.mem_cons_of_mem _ (List.mem_append_right _ h)
set_option maxHeartbeats 4000000 in
set_option maxRecDepth 100000 in
theorem c1_readItem (l_ : Launch) (D : va_G) (k : Nat → ClassId) (a : Nat → Nat) (tS : Nat) (sk sv : Nat → Nat) (X : Nat → Nat) (T : Nat → Nat) (F : Nat → Nat) (E : Nat → Nat → Nat) (p : Nat) (M : Nat → Nat)  (hL : X 0 ≤ 200) (hT : ∀ j, T j < 256) (hp : p ≤ X 0) (hR : Rb M F E) (hf : Wf M) : Met l_ yX1_readItem wsX1_readItem ({ frames := 5, cells := 0, slots := 0, locals := 107 }) (va_Pc [.ref (a 35), .ref (a 9)] (wH (Am tS sk sv) D k (tw a k (kX T (X 0) p) T ++ (bw a 9 k F E)))) (va_Qi (fun (r : Int32) (u : (Nat → Nat) × (Nat → Nat → Nat)) => r = bI (kOK T (X 0) (sIt T (X 0) p M)) ∧ ((sIt T (X 0) p M).1 = true → Rb (sIt T (X 0) p M).2.2 u.1 u.2)) (fun (u : (Nat → Nat) × (Nat → Nat → Nat)) (t_ : State) => va_P D vwCl ((fun (u : (Nat → Nat) × (Nat → Nat → Nat)) => tw a k (kX T (X 0) ((sIt T (X 0) p M).2.1)) T ++ (bw a 9 k u.1 u.2)) u) t_.heap) (wA (tw a k (kX T (X 0) p) T ++ (bw a 9 k F E)))) 0 0 (wA (tw a k (kX T (X 0) p) T ++ (bw a 9 k F E))) := by
  refine my_entry (cc := cX1_readItem) (maxL := 2) (ret := some .boolean) (by decide) rfl (Nat.le_of_ble_eq_true rfl) ?_
  intro p_ e_ s_ m_ bl_ me_ c_ hz hr hlk hB ls hl
  obtain ⟨hP, hK, hD0, hy⟩ := hB
  have hD := wA.self hD0
  have hS : va_S (wA (tw a k (kX T (X 0) p) T ++ (bw a 9 k F E))) s_.heap s_.heap [] := va_S.rf
  have hl : lv_has ls 2 [(0, .ref (a 35)), (1, .ref (a 9))] := hl
  have hx1 := sNx_in (T := T) hp
  have hx2 := sNx_in (T := T) hx1.2.1
  have hx3 := sNx_in (T := T) hx2.2.1
  have hx4 := sNx_in (T := T) hx3.2.1
  have f0 := hf.n2
  have f1 := hf.n9
  have f2 := hf.fr
  have f3 := hf.gd
  have f4 := hf.pc
  have f5 := hf.wc
  have e0 : F 0 = M 0 := hR.1.1
  have e1 : F 1 = M 1 := hR.1.2.1
  have e2 : F 2 = M 2 := hR.1.2.2.1
  have e3 : F 3 = M 19 := hR.1.2.2.2.1
  have e4 : F 4 = M 32 := hR.1.2.2.2.2
  refine lv_aload_n hz.1 hz.2.1 dX1_readItem_0 rfl (lv_at hl 0 rfl) ?_
  refine va_ldcS hz.1 hz.2.1 hz.2.2.2.1 (hy.1.2.2 1 (by decide)) dX1_readItem_1 ?_
  refine rdV (A := wA (tw a k (kX T (X 0) p) T ++ (bw a 9 k F E))) (As := [.ref (sk 1)]) (rest := []) hz (okAm tS sk sv) (c1_isWord l_ D k a tS sk sv X T p 1 (by decide) hL hT (by omega)) (cwV 1 hz.2.2.2.2 gX1_readItem_X1_isWord rfl rfl rfl (by decide +kernel) ⟨Nat.le_of_ble_eq_true rfl, Nat.le_of_ble_eq_true rfl⟩) hK hy (hP.sub (ws' := tw a k (kX T (X 0) p) T) [0, 1] rfl) (hD.sub (ws' := tw a k (kX T (X 0) p) T) [0, 1] (by decide) rfl) hS 0 1 rfl rfl rfl rfl hl.1 rfl (Nat.le_of_ble_eq_true rfl) dX1_readItem_3 ⟨Nat.zero_le _, Nat.zero_le _⟩ ?_
  refine toe (z := bI (sW4 T (X 0) p 119 105 114 101)) (by rw [wd_is1]; rfl) ?_
  refine zeq (tgt := 15) hz dX1_readItem_6 (by decide) (fun c_6 => ?_) (fun c_6 => ?_)
  · refine lv_aload_n hz.1 hz.2.1 dX1_readItem_15 rfl (lv_at hl 0 rfl) ?_
    refine va_ldcS hz.1 hz.2.1 hz.2.2.2.1 (hy.1.2.2 2 (by decide)) dX1_readItem_16 ?_
    refine rdV (A := wA (tw a k (kX T (X 0) p) T ++ (bw a 9 k F E))) (As := [.ref (sk 2)]) (rest := []) hz (okAm tS sk sv) (c1_isWord l_ D k a tS sk sv X T p 2 (by decide) hL hT (by omega)) (cwV 1 hz.2.2.2.2 gX1_readItem_X1_isWord rfl rfl rfl (by decide +kernel) ⟨Nat.le_of_ble_eq_true rfl, Nat.le_of_ble_eq_true rfl⟩) hK hy (hP.sub (ws' := tw a k (kX T (X 0) p) T) [0, 1] rfl) (hD.sub (ws' := tw a k (kX T (X 0) p) T) [0, 1] (by decide) rfl) hS 0 1 rfl rfl rfl rfl hl.1 rfl (Nat.le_of_ble_eq_true rfl) dX1_readItem_18 ⟨Nat.zero_le _, Nat.zero_le _⟩ ?_
    refine toe (z := bI (sW5 T (X 0) p 102 114 111 115 116)) (by rw [wd_is2]; rfl) ?_
    refine zeq (tgt := 30) hz dX1_readItem_21 (by decide) (fun c_21 => ?_) (fun c_21 => ?_)
    · refine lv_aload_n hz.1 hz.2.1 dX1_readItem_30 rfl (lv_at hl 0 rfl) ?_
      refine va_ldcS hz.1 hz.2.1 hz.2.2.2.1 (hy.1.2.2 3 (by decide)) dX1_readItem_31 ?_
      refine rdV (A := wA (tw a k (kX T (X 0) p) T ++ (bw a 9 k F E))) (As := [.ref (sk 3)]) (rest := []) hz (okAm tS sk sv) (c1_isWord l_ D k a tS sk sv X T p 3 (by decide) hL hT (by omega)) (cwV 1 hz.2.2.2.2 gX1_readItem_X1_isWord rfl rfl rfl (by decide +kernel) ⟨Nat.le_of_ble_eq_true rfl, Nat.le_of_ble_eq_true rfl⟩) hK hy (hP.sub (ws' := tw a k (kX T (X 0) p) T) [0, 1] rfl) (hD.sub (ws' := tw a k (kX T (X 0) p) T) [0, 1] (by decide) rfl) hS 0 1 rfl rfl rfl rfl hl.1 rfl (Nat.le_of_ble_eq_true rfl) dX1_readItem_33 ⟨Nat.zero_le _, Nat.zero_le _⟩ ?_
      refine toe (z := bI (sW5 T (X 0) p 103 117 97 114 100)) (by rw [wd_is3]; rfl) ?_
      refine zeq (tgt := 45) hz dX1_readItem_36 (by decide) (fun c_36 => ?_) (fun c_36 => ?_)
      · refine lv_aload_n hz.1 hz.2.1 dX1_readItem_45 rfl (lv_at hl 0 rfl) ?_
        refine va_ldcS hz.1 hz.2.1 hz.2.2.2.1 (hy.1.2.2 4 (by decide)) dX1_readItem_46 ?_
        refine rdV (A := wA (tw a k (kX T (X 0) p) T ++ (bw a 9 k F E))) (As := [.ref (sk 4)]) (rest := []) hz (okAm tS sk sv) (c1_isWord l_ D k a tS sk sv X T p 4 (by decide) hL hT (by omega)) (cwV 1 hz.2.2.2.2 gX1_readItem_X1_isWord rfl rfl rfl (by decide +kernel) ⟨Nat.le_of_ble_eq_true rfl, Nat.le_of_ble_eq_true rfl⟩) hK hy (hP.sub (ws' := tw a k (kX T (X 0) p) T) [0, 1] rfl) (hD.sub (ws' := tw a k (kX T (X 0) p) T) [0, 1] (by decide) rfl) hS 0 1 rfl rfl rfl rfl hl.1 rfl (Nat.le_of_ble_eq_true rfl) dX1_readItem_48 ⟨Nat.zero_le _, Nat.zero_le _⟩ ?_
        refine toe (z := bI (sW4 T (X 0) p 119 105 110 100)) (by rw [wd_is4]; rfl) ?_
        refine zeq (tgt := 60) hz dX1_readItem_51 (by decide) (fun c_51 => ?_) (fun c_51 => ?_)
        · refine lv_aload_n hz.1 hz.2.1 dX1_readItem_60 rfl (lv_at hl 0 rfl) ?_
          refine va_ldcS hz.1 hz.2.1 hz.2.2.2.1 (hy.1.2.2 5 (by decide)) dX1_readItem_61 ?_
          refine rdV (A := wA (tw a k (kX T (X 0) p) T ++ (bw a 9 k F E))) (As := [.ref (sk 5)]) (rest := []) hz (okAm tS sk sv) (c1_isWord l_ D k a tS sk sv X T p 5 (by decide) hL hT (by omega)) (cwV 1 hz.2.2.2.2 gX1_readItem_X1_isWord rfl rfl rfl (by decide +kernel) ⟨Nat.le_of_ble_eq_true rfl, Nat.le_of_ble_eq_true rfl⟩) hK hy (hP.sub (ws' := tw a k (kX T (X 0) p) T) [0, 1] rfl) (hD.sub (ws' := tw a k (kX T (X 0) p) T) [0, 1] (by decide) rfl) hS 0 1 rfl rfl rfl rfl hl.1 rfl (Nat.le_of_ble_eq_true rfl) dX1_readItem_63 ⟨Nat.zero_le _, Nat.zero_le _⟩ ?_
          refine toe (z := bI (sW4 T (X 0) p 112 97 115 115)) (by rw [wd_is5]; rfl) ?_
          refine zeq (tgt := 81) hz dX1_readItem_66 (by decide) (fun c_66 => ?_) (fun c_66 => ?_)
          · refine lv_iconst (v := nI 0) hz.1 hz.2.1 dX1_readItem_81 (by decide) ?_
            have eS : sIt T (X 0) p M = (false, p, M) := by rw [sIt, if_neg (by rw [c_6]; decide), if_neg (by rw [c_21]; decide), if_neg (by rw [c_36]; decide), if_neg (by rw [c_51]; decide), if_neg (by rw [c_66]; decide)]
            have hP : va_P D vwCl (tw a k (kX T (X 0) ((sIt T (X 0) p M).2.1)) T ++ (bw a 9 k F E)) s_.heap := by rw [eS]; exact hP
            exact wr_zret hz hr hlk dX1_readItem_82 hS (bI_0 (z := false) rfl) ((⟨F, E⟩ : (Nat → Nat) × (Nat → Nat → Nat))) hP (⟨by rw [eS]; rfl, fun h => by rw [eS] at h; cases h⟩)
          · refine lv_aload_n hz.1 hz.2.1 dX1_readItem_69 rfl (lv_at hl 0 rfl) ?_
            refine lv_aload_n hz.1 hz.2.1 dX1_readItem_70 rfl (lv_at hl 1 rfl) ?_
            refine wrV (A := wA (tw a k (kX T (X 0) p) T ++ (bw a 9 k F E))) (As := [.ref (a 9)]) (rest := []) hz (okAm tS sk sv) (c1_readPass l_ D k a tS sk sv X T F E p M  hL hT (by omega) hR hf) (cwV 1 hz.2.2.2.2 gX1_readItem_X1_readPass rfl rfl rfl (by decide +kernel) ⟨Nat.le_of_ble_eq_true rfl, Nat.le_of_ble_eq_true rfl⟩) hK hy hP hD hS 0 1 rfl rfl rfl rfl hl.1 rfl (Nat.le_of_ble_eq_true rfl) dX1_readItem_71 ⟨Nat.zero_le _, Nat.zero_le _⟩ (fun r u H1 locs hp hP1 hS hfr => ?_)
            obtain ⟨rfl, hRn⟩ := hp
            have hP : va_P D vwCl (tw a k (kX T (X 0) ((sRP T (X 0) p M).2.1)) T ++ (bw a 9 k u.1 u.2)) H1 := hP1
            generalize H1 = H at hP hS ⊢
            have hD : va_D (wA (tw a k (kX T (X 0) p) T ++ (bw a 9 k F E))) (tw a k (kX T (X 0) ((sRP T (X 0) p M).2.1)) T ++ (bw a 9 k u.1 u.2)) := hD.same rfl
            refine zeq (tgt := 81) hz dX1_readItem_74 (by decide) (fun c_74 => ?_) (fun c_74 => ?_)
            · refine lv_iconst (v := nI 0) hz.1 hz.2.1 dX1_readItem_81 (by decide) ?_
              have eS : sIt T (X 0) p M = sRP T (X 0) p M := by rw [sIt, if_neg (by rw [c_6]; decide), if_neg (by rw [c_21]; decide), if_neg (by rw [c_36]; decide), if_neg (by rw [c_51]; decide), if_pos c_66]
              have hP : va_P D vwCl (tw a k (kX T (X 0) ((sIt T (X 0) p M).2.1)) T ++ (bw a 9 k u.1 u.2)) H := by rw [eS]; exact hP
              exact wr_zret hz hr hlk dX1_readItem_82 hS (bI_0 c_74) ((⟨u.1, u.2⟩ : (Nat → Nat) × (Nat → Nat → Nat))) hP (⟨by rw [eS], fun h => by rw [eS] at h ⊢; exact hRn h⟩)
            · refine lv_iconst (v := nI 1) hz.1 hz.2.1 dX1_readItem_77 (by decide) ?_
              refine lv_goto (tgt := 82) hz.1 hz.2.1 dX1_readItem_78 (by decide) ?_
              have eS : sIt T (X 0) p M = sRP T (X 0) p M := by rw [sIt, if_neg (by rw [c_6]; decide), if_neg (by rw [c_21]; decide), if_neg (by rw [c_36]; decide), if_neg (by rw [c_51]; decide), if_pos c_66]
              have hP : va_P D vwCl (tw a k (kX T (X 0) ((sIt T (X 0) p M).2.1)) T ++ (bw a 9 k u.1 u.2)) H := by rw [eS]; exact hP
              exact wr_zret hz hr hlk dX1_readItem_82 hS (bI_1 c_74) ((⟨u.1, u.2⟩ : (Nat → Nat) × (Nat → Nat → Nat))) hP (⟨by rw [eS], fun h => by rw [eS] at h ⊢; exact hRn h⟩)
        · refine lv_aload_n hz.1 hz.2.1 dX1_readItem_54 rfl (lv_at hl 0 rfl) ?_
          refine lv_aload_n hz.1 hz.2.1 dX1_readItem_55 rfl (lv_at hl 1 rfl) ?_
          refine wrV (A := wA (tw a k (kX T (X 0) p) T ++ (bw a 9 k F E))) (As := [.ref (a 9)]) (rest := []) hz (okAm tS sk sv) (c1_readWind l_ D k a tS sk sv X T F E p M  hL hT (by omega) hR hf) (cwV 1 hz.2.2.2.2 gX1_readItem_X1_readWind rfl rfl rfl (by decide +kernel) ⟨Nat.le_of_ble_eq_true rfl, Nat.le_of_ble_eq_true rfl⟩) hK hy hP hD hS 0 1 rfl rfl rfl rfl hl.1 rfl (Nat.le_of_ble_eq_true rfl) dX1_readItem_56 ⟨Nat.zero_le _, Nat.zero_le _⟩ (fun r u H1 locs hp hP1 hS hfr => ?_)
          obtain ⟨rfl, hRn⟩ := hp
          have hP : va_P D vwCl (tw a k (kX T (X 0) ((sRD T (X 0) p M).2.1)) T ++ (bw a 9 k u.1 u.2)) H1 := hP1
          generalize H1 = H at hP hS ⊢
          have hD : va_D (wA (tw a k (kX T (X 0) p) T ++ (bw a 9 k F E))) (tw a k (kX T (X 0) ((sRD T (X 0) p M).2.1)) T ++ (bw a 9 k u.1 u.2)) := hD.same rfl
          have eS : sIt T (X 0) p M = sRD T (X 0) p M := by rw [sIt, if_neg (by rw [c_6]; decide), if_neg (by rw [c_21]; decide), if_neg (by rw [c_36]; decide), if_pos c_51]
          have hP : va_P D vwCl (tw a k (kX T (X 0) ((sIt T (X 0) p M).2.1)) T ++ (bw a 9 k u.1 u.2)) H := by rw [eS]; exact hP
          exact wr_zret hz hr hlk dX1_readItem_59 hS (rfl) ((⟨u.1, u.2⟩ : (Nat → Nat) × (Nat → Nat → Nat))) hP (⟨by rw [eS], fun h => by rw [eS] at h ⊢; exact hRn h⟩)
      · refine lv_aload_n hz.1 hz.2.1 dX1_readItem_39 rfl (lv_at hl 0 rfl) ?_
        refine lv_aload_n hz.1 hz.2.1 dX1_readItem_40 rfl (lv_at hl 1 rfl) ?_
        refine wrV (A := wA (tw a k (kX T (X 0) p) T ++ (bw a 9 k F E))) (As := [.ref (a 9)]) (rest := []) hz (okAm tS sk sv) (c1_readGuard l_ D k a tS sk sv X T F E p M  hL hT (by omega) hR hf) (cwV 1 hz.2.2.2.2 gX1_readItem_X1_readGuard rfl rfl rfl (by decide +kernel) ⟨Nat.le_of_ble_eq_true rfl, Nat.le_of_ble_eq_true rfl⟩) hK hy hP hD hS 0 1 rfl rfl rfl rfl hl.1 rfl (Nat.le_of_ble_eq_true rfl) dX1_readItem_41 ⟨Nat.zero_le _, Nat.zero_le _⟩ (fun r u H1 locs hp hP1 hS hfr => ?_)
        obtain ⟨rfl, hRn⟩ := hp
        have hP : va_P D vwCl (tw a k (kX T (X 0) ((sRG T (X 0) p M).2.1)) T ++ (bw a 9 k u.1 u.2)) H1 := hP1
        generalize H1 = H at hP hS ⊢
        have hD : va_D (wA (tw a k (kX T (X 0) p) T ++ (bw a 9 k F E))) (tw a k (kX T (X 0) ((sRG T (X 0) p M).2.1)) T ++ (bw a 9 k u.1 u.2)) := hD.same rfl
        have eS : sIt T (X 0) p M = sRG T (X 0) p M := by rw [sIt, if_neg (by rw [c_6]; decide), if_neg (by rw [c_21]; decide), if_pos c_36]
        have hP : va_P D vwCl (tw a k (kX T (X 0) ((sIt T (X 0) p M).2.1)) T ++ (bw a 9 k u.1 u.2)) H := by rw [eS]; exact hP
        exact wr_zret hz hr hlk dX1_readItem_44 hS (rfl) ((⟨u.1, u.2⟩ : (Nat → Nat) × (Nat → Nat → Nat))) hP (⟨by rw [eS], fun h => by rw [eS] at h ⊢; exact hRn h⟩)
    · refine lv_aload_n hz.1 hz.2.1 dX1_readItem_24 rfl (lv_at hl 0 rfl) ?_
      refine lv_aload_n hz.1 hz.2.1 dX1_readItem_25 rfl (lv_at hl 1 rfl) ?_
      refine wrV (A := wA (tw a k (kX T (X 0) p) T ++ (bw a 9 k F E))) (As := [.ref (a 9)]) (rest := []) hz (okAm tS sk sv) (c1_readFrost l_ D k a tS sk sv X T F E p M  hL hT (by omega) hR hf) (cwV 1 hz.2.2.2.2 gX1_readItem_X1_readFrost rfl rfl rfl (by decide +kernel) ⟨Nat.le_of_ble_eq_true rfl, Nat.le_of_ble_eq_true rfl⟩) hK hy hP hD hS 0 1 rfl rfl rfl rfl hl.1 rfl (Nat.le_of_ble_eq_true rfl) dX1_readItem_26 ⟨Nat.zero_le _, Nat.zero_le _⟩ (fun r u H1 locs hp hP1 hS hfr => ?_)
      obtain ⟨rfl, hRn⟩ := hp
      have hP : va_P D vwCl (tw a k (kX T (X 0) ((sRF T (X 0) p M).2.1)) T ++ (bw a 9 k u.1 u.2)) H1 := hP1
      generalize H1 = H at hP hS ⊢
      have hD : va_D (wA (tw a k (kX T (X 0) p) T ++ (bw a 9 k F E))) (tw a k (kX T (X 0) ((sRF T (X 0) p M).2.1)) T ++ (bw a 9 k u.1 u.2)) := hD.same rfl
      have eS : sIt T (X 0) p M = sRF T (X 0) p M := by rw [sIt, if_neg (by rw [c_6]; decide), if_pos c_21]
      have hP : va_P D vwCl (tw a k (kX T (X 0) ((sIt T (X 0) p M).2.1)) T ++ (bw a 9 k u.1 u.2)) H := by rw [eS]; exact hP
      exact wr_zret hz hr hlk dX1_readItem_29 hS (rfl) ((⟨u.1, u.2⟩ : (Nat → Nat) × (Nat → Nat → Nat))) hP (⟨by rw [eS], fun h => by rw [eS] at h ⊢; exact hRn h⟩)
  · refine lv_aload_n hz.1 hz.2.1 dX1_readItem_9 rfl (lv_at hl 0 rfl) ?_
    refine lv_aload_n hz.1 hz.2.1 dX1_readItem_10 rfl (lv_at hl 1 rfl) ?_
    refine wrV (A := wA (tw a k (kX T (X 0) p) T ++ (bw a 9 k F E))) (As := [.ref (a 9)]) (rest := []) hz (okAm tS sk sv) (c1_readWire l_ D k a tS sk sv X T F E p M  hL hT (by omega) hR hf) (cwV 1 hz.2.2.2.2 gX1_readItem_X1_readWire rfl rfl rfl (by decide +kernel) ⟨Nat.le_of_ble_eq_true rfl, Nat.le_of_ble_eq_true rfl⟩) hK hy hP hD hS 0 1 rfl rfl rfl rfl hl.1 rfl (Nat.le_of_ble_eq_true rfl) dX1_readItem_11 ⟨Nat.zero_le _, Nat.zero_le _⟩ (fun r u H1 locs hp hP1 hS hfr => ?_)
    obtain ⟨rfl, hRn⟩ := hp
    have hP : va_P D vwCl (tw a k (kX T (X 0) ((sRW T (X 0) p M).2.1)) T ++ (bw a 9 k u.1 u.2)) H1 := hP1
    generalize H1 = H at hP hS ⊢
    have hD : va_D (wA (tw a k (kX T (X 0) p) T ++ (bw a 9 k F E))) (tw a k (kX T (X 0) ((sRW T (X 0) p M).2.1)) T ++ (bw a 9 k u.1 u.2)) := hD.same rfl
    have eS : sIt T (X 0) p M = sRW T (X 0) p M := by rw [sIt, if_pos c_6]
    have hP : va_P D vwCl (tw a k (kX T (X 0) ((sIt T (X 0) p M).2.1)) T ++ (bw a 9 k u.1 u.2)) H := by rw [eS]; exact hP
    exact wr_zret hz hr hlk dX1_readItem_14 hS (rfl) ((⟨u.1, u.2⟩ : (Nat → Nat) × (Nat → Nat → Nat))) hP (⟨by rw [eS], fun h => by rw [eS] at h ⊢; exact hRn h⟩)

theorem hinX1_readPosts_X1 : ∀ w ∈ wsX10, w ∈ wsX1_readPosts := fun _ h => List.mem_cons_of_mem _ (List.mem_append_left _ (List.mem_append_right _ h))
theorem hinX1_readPosts_X0 : ∀ w ∈ wsX00, w ∈ wsX1_readPosts := fun _ h => List.mem_cons_of_mem _ (List.mem_append_right _ h)
set_option maxHeartbeats 4000000 in
set_option maxRecDepth 100000 in
theorem c1_readPosts (l_ : Launch) (D : va_G) (k : Nat → ClassId) (a : Nat → Nat) (tS : Nat) (sk sv : Nat → Nat) (X : Nat → Nat) (T : Nat → Nat) (F : Nat → Nat) (E : Nat → Nat → Nat) (p : Nat)   (hL : X 0 ≤ 200) (hT : ∀ j, T j < 256) (hp : p ≤ X 0) : Met l_ yX1_readPosts wsX1_readPosts ({ frames := 5, cells := 0, slots := 0, locals := 107 }) (va_Pc [.ref (a 35), .ref (a 9)] (wH (Am tS sk sv) D k (tw a k (kX T (X 0) p) T ++ (bw a 9 k F E)))) (va_Qi (fun (r : Int32) (u : (Nat → Nat) × (Nat → Nat → Nat)) => r = bI (sR1 T (X 0) p).1 ∧ ((sR1 T (X 0) p).1 = true → ∀ N0, Rb (sBegin N0 (sR1 T (X 0) p).2.2) u.1 u.2)) (fun (u : (Nat → Nat) × (Nat → Nat → Nat)) (t_ : State) => va_P D vwCl ((fun (u : (Nat → Nat) × (Nat → Nat → Nat)) => tw a k (kX T (X 0) ((sR1 T (X 0) p).2.1)) T ++ (bw a 9 k u.1 u.2)) u) t_.heap) (wA (tw a k (kX T (X 0) p) T ++ (bw a 9 k F E)))) 0 0 (wA (tw a k (kX T (X 0) p) T ++ (bw a 9 k F E))) := by
  refine my_entry (cc := cX1_readPosts) (maxL := 3) (ret := some .boolean) (by decide) rfl (Nat.le_of_ble_eq_true rfl) ?_
  intro p_ e_ s_ m_ bl_ me_ c_ hz hr hlk hB ls hl
  obtain ⟨hP, hK, hD0, hy⟩ := hB
  have hD := wA.self hD0
  have hS : va_S (wA (tw a k (kX T (X 0) p) T ++ (bw a 9 k F E))) s_.heap s_.heap [] := va_S.rf
  have hl : lv_has ls 3 [(0, .ref (a 35)), (1, .ref (a 9))] := hl
  have hx1 := sNx_in (T := T) hp
  have hx2 := sNx_in (T := T) hx1.2.1
  have hx3 := sNx_in (T := T) hx2.2.1
  have hx4 := sNx_in (T := T) hx3.2.1
  refine lv_aload_n hz.1 hz.2.1 dX1_readPosts_0 rfl (lv_at hl 0 rfl) ?_
  refine va_ldcS hz.1 hz.2.1 hz.2.2.2.1 (hy.1.2.2 0 (by decide)) dX1_readPosts_1 ?_
  refine rdV (A := wA (tw a k (kX T (X 0) p) T ++ (bw a 9 k F E))) (As := [.ref (sk 0)]) (rest := []) hz (okAm tS sk sv) (c1_isWord l_ D k a tS sk sv X T p 0 (by decide) hL hT (by omega)) (cwV 1 hz.2.2.2.2 gX1_readPosts_X1_isWord rfl rfl rfl (by decide +kernel) ⟨Nat.le_of_ble_eq_true rfl, Nat.le_of_ble_eq_true rfl⟩) hK hy (hP.sub (ws' := tw a k (kX T (X 0) p) T) [0, 1] rfl) (hD.sub (ws' := tw a k (kX T (X 0) p) T) [0, 1] (by decide) rfl) hS 0 1 rfl rfl rfl rfl hl.1 rfl (Nat.le_of_ble_eq_true rfl) dX1_readPosts_3 ⟨Nat.zero_le _, Nat.zero_le _⟩ ?_
  refine toe (z := bI (sW5 T (X 0) p 112 111 115 116 115)) (by rw [wd_is0]; rfl) ?_
  refine zne (tgt := 11) hz dX1_readPosts_6 (by decide) (fun c_6 => ?_) (fun c_6 => ?_)
  · refine lv_aload_n hz.1 hz.2.1 dX1_readPosts_11 rfl (lv_at hl 0 rfl) ?_
    refine lv_iconst (v := nI 2) hz.1 hz.2.1 dX1_readPosts_12 (by decide) ?_
    refine lv_bipush (v := nI 9) hz.1 hz.2.1 dX1_readPosts_13 (by decide) ?_
    refine wrV (A := wA (tw a k (kX T (X 0) p) T ++ (bw a 9 k F E))) (As := [.int (nI 2), .int (nI 9)]) (rest := []) hz (okAm tS sk sv) (c1_nextNumber l_ D k a tS sk sv X T p 2 9 hL hT (by omega) (by omega) (by omega)) (cwV 2 hz.2.2.2.2 gX1_readPosts_X1_nextNumber rfl rfl rfl (by decide +kernel) ⟨Nat.le_of_ble_eq_true rfl, Nat.le_of_ble_eq_true rfl⟩) hK hy (hP.sub (ws' := tw a k (kX T (X 0) p) T) [0, 1] rfl) (hD.sub (ws' := tw a k (kX T (X 0) p) T) [0, 1] (by decide) rfl) hS 0 1 rfl rfl rfl rfl hl.1 rfl (Nat.le_of_ble_eq_true rfl) dX1_readPosts_15 ⟨Nat.zero_le _, Nat.zero_le _⟩ (fun r _ H1 locs hp hP1 hS hfr => ?_)
    obtain rfl : r = oI (kNum T (X 0) (sNx T (X 0) p) 2 9) := hp
    have hP1 : va_P D vwCl (tw a k (kX T (X 0) (sNx T (X 0) p)) T) H1 := hP1
    have hP : va_P D vwCl (tw a k (kX T (X 0) (sNx T (X 0) p)) T ++ (bw a 9 k F E)) H1 := wJn (w1 := tw a k (kX T (X 0) (sNx T (X 0) p)) T) (wc := tw a k (kX T (X 0) p) T) hP hD [0, 1] rfl rfl hP1 hfr
    generalize H1 = H at hP hS ⊢
    have hD : va_D (wA (tw a k (kX T (X 0) p) T ++ (bw a 9 k F E))) (tw a k (kX T (X 0) (sNx T (X 0) p)) T ++ (bw a 9 k F E)) := hD.same rfl
    refine lv_istore_n (lv' := [(2, .int (oI (kNum T (X 0) (sNx T (X 0) p) 2 9))), (0, .ref (a 35)), (1, .ref (a 9))]) hz.1 hz.2.1 dX1_readPosts_18 rfl hl (by decide) rfl (fun ls hl => ?_)
    refine lv_iload_n hz.1 hz.2.1 dX1_readPosts_19 rfl (lv_at hl 0 rfl) ?_
    refine lv_if_ge (tgt := 25) hz.1 hz.2.1 dX1_readPosts_20 (by decide) (fun c_20 => ?_) (fun c_20 => ?_)
    · have hn20 : sNum T (X 0) (sNx T (X 0) p) 2 9 := kNum_ge (le_lt0 c_20)
      have hv20 := hn20.2.2
      rw [kNum_s hn20] at hl
      have hl : lv_has ls 3 [(2, .int (nI (sVl T (X 0) (sNx T (X 0) p)))), (0, .ref (a 35)), (1, .ref (a 9))] := hl
      refine lv_aload_n hz.1 hz.2.1 dX1_readPosts_25 rfl (lv_at hl 2 rfl) ?_
      refine lv_iload_n hz.1 hz.2.1 dX1_readPosts_26 rfl (lv_at hl 0 rfl) ?_
      refine wrVv (A := wA (tw a k (kX T (X 0) p) T ++ (bw a 9 k F E))) (As := [.int (nI (sVl T (X 0) (sNx T (X 0) p)))]) (rest := []) hz (okAm tS sk sv) (c0_startOver l_ D k a 9 tS sk sv F E  (sVl T (X 0) (sNx T (X 0) p)) ) (cwV 1 hz.2.2.2.2 gX1_readPosts_X0_startOver rfl rfl rfl (by decide +kernel) ⟨Nat.le_of_ble_eq_true rfl, Nat.le_of_ble_eq_true rfl⟩) hK hy (hP.sub (ws' := bw a 9 k F E) [2, 3, 4, 5, 6, 7, 8, 9] rfl) (hD.sub (ws' := bw a 9 k F E) [2, 3, 4, 5, 6, 7, 8, 9] (by decide) rfl) hS 0 0 rfl rfl rfl rfl hl.1 rfl (Nat.le_of_ble_eq_true rfl) dX1_readPosts_27 ⟨Nat.zero_le _, Nat.zero_le _⟩ (fun _ H1 locs hp hP1 hS hfr => ?_)
      have hP1 : va_P D vwCl (bw a 9 k (nset (nset (nset (nset (nset F 0 (sVl T (X 0) (sNx T (X 0) p))) 1 0) 2 0) 3 0) 4 0) (gset (gset E 0 (zfill (E 0) 8)) 1 (zfill (E 1) 8))) H1 := hP1
      have hP : va_P D vwCl (tw a k (kX T (X 0) (sNx T (X 0) p)) T ++ (bw a 9 k (nset (nset (nset (nset (nset F 0 (sVl T (X 0) (sNx T (X 0) p))) 1 0) 2 0) 3 0) 4 0) (gset (gset E 0 (zfill (E 0) 8)) 1 (zfill (E 1) 8)))) H1 := wJn (w1 := bw a 9 k (nset (nset (nset (nset (nset F 0 (sVl T (X 0) (sNx T (X 0) p))) 1 0) 2 0) 3 0) 4 0) (gset (gset E 0 (zfill (E 0) 8)) 1 (zfill (E 1) 8))) (wc := bw a 9 k F E) hP hD [2, 3, 4, 5, 6, 7, 8, 9] rfl rfl hP1 hfr
      generalize H1 = H at hP hS ⊢
      have hD : va_D (wA (tw a k (kX T (X 0) p) T ++ (bw a 9 k F E))) (tw a k (kX T (X 0) (sNx T (X 0) p)) T ++ (bw a 9 k (nset (nset (nset (nset (nset F 0 (sVl T (X 0) (sNx T (X 0) p))) 1 0) 2 0) 3 0) 4 0) (gset (gset E 0 (zfill (E 0) 8)) 1 (zfill (E 1) 8)))) := hD.same rfl
      refine lv_aload_n hz.1 hz.2.1 dX1_readPosts_30 rfl (lv_at hl 1 rfl) ?_
      refine wrV (A := wA (tw a k (kX T (X 0) p) T ++ (bw a 9 k F E))) (As := []) (rest := []) hz (okAm tS sk sv) (c1_nextStop l_ D k a tS sk sv X T (sNx T (X 0) p)  hL hT (by omega)) (cwV 0 hz.2.2.2.2 gX1_readPosts_X1_nextStop rfl rfl rfl (by decide +kernel) ⟨Nat.le_of_ble_eq_true rfl, Nat.le_of_ble_eq_true rfl⟩) hK hy (hP.sub (ws' := tw a k (kX T (X 0) (sNx T (X 0) p)) T) [0, 1] rfl) (hD.sub (ws' := tw a k (kX T (X 0) (sNx T (X 0) p)) T) [0, 1] (by decide) rfl) hS 0 1 rfl rfl rfl rfl hl.1 rfl (Nat.le_of_ble_eq_true rfl) dX1_readPosts_31 ⟨Nat.zero_le _, Nat.zero_le _⟩ (fun r _ H1 locs hp hP1 hS hfr => ?_)
      obtain rfl : r = bI (decide (sKd T (X 0) (sNx T (X 0) (sNx T (X 0) p)) = 3)) := hp
      have hP1 : va_P D vwCl (tw a k (kX T (X 0) (sNx T (X 0) (sNx T (X 0) p))) T) H1 := hP1
      have hP : va_P D vwCl (tw a k (kX T (X 0) (sNx T (X 0) (sNx T (X 0) p))) T ++ (bw a 9 k (nset (nset (nset (nset (nset F 0 (sVl T (X 0) (sNx T (X 0) p))) 1 0) 2 0) 3 0) 4 0) (gset (gset E 0 (zfill (E 0) 8)) 1 (zfill (E 1) 8)))) H1 := wJn (w1 := tw a k (kX T (X 0) (sNx T (X 0) (sNx T (X 0) p))) T) (wc := tw a k (kX T (X 0) (sNx T (X 0) p)) T) hP hD [0, 1] rfl rfl hP1 hfr
      generalize H1 = H at hP hS ⊢
      have hD : va_D (wA (tw a k (kX T (X 0) p) T ++ (bw a 9 k F E))) (tw a k (kX T (X 0) (sNx T (X 0) (sNx T (X 0) p))) T ++ (bw a 9 k (nset (nset (nset (nset (nset F 0 (sVl T (X 0) (sNx T (X 0) p))) 1 0) 2 0) 3 0) 4 0) (gset (gset E 0 (zfill (E 0) 8)) 1 (zfill (E 1) 8)))) := hD.same rfl
      have eS : sR1 T (X 0) p = (decide (sKd T (X 0) (sNx T (X 0) (sNx T (X 0) p)) = 3), sNx T (X 0) (sNx T (X 0) p), sVl T (X 0) (sNx T (X 0) p)) := by rw [sR1, if_pos c_6, if_pos hn20]
      have hP : va_P D vwCl (tw a k (kX T (X 0) ((sR1 T (X 0) p).2.1)) T ++ (bw a 9 k (nset (nset (nset (nset (nset F 0 (sVl T (X 0) (sNx T (X 0) p))) 1 0) 2 0) 3 0) 4 0) (gset (gset E 0 (zfill (E 0) 8)) 1 (zfill (E 1) 8)))) H := by rw [eS]; exact hP
      exact wr_zret hz hr hlk dX1_readPosts_34 hS (rfl) ((⟨nset (nset (nset (nset (nset F 0 (sVl T (X 0) (sNx T (X 0) p))) 1 0) 2 0) 3 0) 4 0, gset (gset E 0 (zfill (E 0) 8)) 1 (zfill (E 1) 8)⟩ : (Nat → Nat) × (Nat → Nat → Nat))) hP (⟨by rw [eS], fun _ N0 => by rw [eS]; exact Rb.begin N0 F E _⟩)
    · have hn20 : ¬ sNum T (X 0) (sNx T (X 0) p) 2 9 := kNum_no hT (nle_lt0 c_20)
      refine lv_iconst (v := nI 0) hz.1 hz.2.1 dX1_readPosts_23 (by decide) ?_
      have eS : sR1 T (X 0) p = (false, sNx T (X 0) p, 0) := by rw [sR1, if_pos c_6, if_neg hn20]
      have hP : va_P D vwCl (tw a k (kX T (X 0) ((sR1 T (X 0) p).2.1)) T ++ (bw a 9 k F E)) H := by rw [eS]; exact hP
      exact wr_zret hz hr hlk dX1_readPosts_24 hS (bI_0 (z := false) rfl) ((⟨F, E⟩ : (Nat → Nat) × (Nat → Nat → Nat))) hP (⟨by rw [eS], fun h => by rw [eS] at h; cases h⟩)
  · refine lv_iconst (v := nI 0) hz.1 hz.2.1 dX1_readPosts_9 (by decide) ?_
    have eS : sR1 T (X 0) p = (false, p, 0) := by rw [sR1, if_neg (by rw [c_6]; decide)]
    have hP : va_P D vwCl (tw a k (kX T (X 0) ((sR1 T (X 0) p).2.1)) T ++ (bw a 9 k F E)) s_.heap := by rw [eS]; exact hP
    exact wr_zret hz hr hlk dX1_readPosts_10 hS (bI_0 (z := false) rfl) ((⟨F, E⟩ : (Nat → Nat) × (Nat → Nat → Nat))) hP (⟨by rw [eS], fun h => by rw [eS] at h; cases h⟩)
