theorem hinX1_readInto_X1 : ∀ w ∈ wsX10, w ∈ wsX1_readInto := fun _ h => List.mem_cons_of_mem _ (List.mem_append_left _ (List.mem_append_right _ h))
theorem hinX1_readInto_X0 : ∀ w ∈ wsX00, w ∈ wsX1_readInto := fun _ h => List.mem_cons_of_mem _ (List.mem_append_right _ h)
set_option maxHeartbeats 4000000 in
set_option maxRecDepth 100000 in
theorem c1_readInto (l_ : Launch) (D : va_G) (k : Nat → ClassId) (a : Nat → Nat) (tS : Nat) (sk sv : Nat → Nat) (X : Nat → Nat) (T : Nat → Nat) (F : Nat → Nat) (E : Nat → Nat → Nat) (N0 : Nat → Nat)  (hL : X 0 ≤ 200) (hT : ∀ j, T j < 256) : Met l_ yX1_readInto wsX1_readInto ({ frames := 6, cells := 0, slots := 0, locals := 129 }) (va_Pc [.ref (a 35), .ref (a 9)] (wH (Am tS sk sv) D k (tw a k X T ++ (bw a 9 k F E)))) (va_Qi (fun (r : Int32) (u : Nat × (Nat → Nat) × (Nat → Nat → Nat)) => ((sRd T (X 0) N0).1 = true → r = nI (sRd T (X 0) N0).2.1 ∧ Wf (sRd T (X 0) N0).2.2 ∧ Rb (sRd T (X 0) N0).2.2 u.2.1 u.2.2) ∧ ((sRd T (X 0) N0).1 = false → r = (-10) - nI (sRd T (X 0) N0).2.1) ∧ (sRd T (X 0) N0).2.1 ≤ 300) (fun (u : Nat × (Nat → Nat) × (Nat → Nat → Nat)) (t_ : State) => va_P D vwCl ((fun (u : Nat × (Nat → Nat) × (Nat → Nat → Nat)) => tw a k (kX T (X 0) u.1) T ++ (bw a 9 k u.2.1 u.2.2)) u) t_.heap) (wA (tw a k X T ++ (bw a 9 k F E)))) 0 0 (wA (tw a k X T ++ (bw a 9 k F E))) := by
  refine my_entry (cc := cX1_readInto) (maxL := 4) (ret := some .int) (by decide) rfl (Nat.le_of_ble_eq_true rfl) ?_
  intro p_ e_ s_ m_ bl_ me_ c_ hz hr hlk hB ls hl
  obtain ⟨hP, hK, hD0, hy⟩ := hB
  have hD := wA.self hD0
  have hS : va_S (wA (tw a k X T ++ (bw a 9 k F E))) s_.heap s_.heap [] := va_S.rf
  have hl : lv_has ls 4 [(0, .ref (a 35)), (1, .ref (a 9))] := hl
  have ha0 := (sAt_le (T := T) (L := X 0) (X 0) 0 (by omega) (by omega)).2
  refine lv_aload_n hz.1 hz.2.1 dX1_readInto_0 rfl (lv_at hl 0 rfl) ?_
  refine lv_iconst (v := nI 0) hz.1 hz.2.1 dX1_readInto_1 (by decide) ?_
  refine rput (v := .int (nI 0)) (ty := .int) (T := TX1) (N := 5) hz hinX1_readInto_X1 tyX1 tyX1_ok nmX1 hK hP hD hS 0 rfl rfl 4 (by decide) (List.mem_of_getElem? (i := 1) rfl) rfl rfl (by decide +kernel) rfl rfl (Nat.le_of_ble_eq_true rfl) dX1_readInto_2 (fun H locs hP hS => ?_)
  have hP : va_P D vwCl (tw a k (nset X 3 0) T ++ (bw a 9 k F E)) H := hP
  have hD : va_D (wA (tw a k X T ++ (bw a 9 k F E))) (tw a k (nset X 3 0) T ++ (bw a 9 k F E)) := hD.same rfl
  refine lv_aload_n hz.1 hz.2.1 dX1_readInto_5 rfl (lv_at hl 0 rfl) ?_
  refine wrVv (A := wA (tw a k X T ++ (bw a 9 k F E))) (As := []) (rest := []) hz (okAm tS sk sv) (c1_scan l_ D k a tS sk sv (nset X 3 0) T   hL hT (by first | exact hE0 | omega | exact Nat.zero_le _)) (cwV 0 hz.2.2.2.2 gX1_readInto_X1_scan rfl rfl rfl (by decide +kernel) ⟨Nat.le_of_ble_eq_true rfl, Nat.le_of_ble_eq_true rfl⟩) hK hy (hP.sub (ws' := tw a k (nset X 3 0) T) [0, 1] rfl) (hD.sub (ws' := tw a k (nset X 3 0) T) [0, 1] (by decide) rfl) hS 0 1 rfl rfl rfl rfl hl.1 rfl (Nat.le_of_ble_eq_true rfl) dX1_readInto_6 ⟨Nat.zero_le _, Nat.zero_le _⟩ (fun _ H1 locs hp hP1 hS hfr => ?_)
  have hP1 : va_P D vwCl (tw a k (kX T (X 0) (sAt T (X 0) 0)) T) H1 := hP1
  have hP : va_P D vwCl (tw a k (kX T (X 0) (sAt T (X 0) 0)) T ++ (bw a 9 k F E)) H1 := wJn (w1 := tw a k (kX T (X 0) (sAt T (X 0) 0)) T) (wc := tw a k (nset X 3 0) T) hP hD [0, 1] rfl rfl hP1 hfr
  generalize H1 = H at hP hS ⊢
  have hD : va_D (wA (tw a k X T ++ (bw a 9 k F E))) (tw a k (kX T (X 0) (sAt T (X 0) 0)) T ++ (bw a 9 k F E)) := hD.same rfl
  refine lv_aload_n hz.1 hz.2.1 dX1_readInto_9 rfl (lv_at hl 0 rfl) ?_
  refine lv_aload_n hz.1 hz.2.1 dX1_readInto_10 rfl (lv_at hl 1 rfl) ?_
  refine wrV (A := wA (tw a k X T ++ (bw a 9 k F E))) (As := [.ref (a 9)]) (rest := []) hz (okAm tS sk sv) (c1_readPosts l_ D k a tS sk sv X T F E (sAt T (X 0) 0)  hL hT (by omega)) (cwV 1 hz.2.2.2.2 gX1_readInto_X1_readPosts rfl rfl rfl (by decide +kernel) ⟨Nat.le_of_ble_eq_true rfl, Nat.le_of_ble_eq_true rfl⟩) hK hy hP hD hS 0 1 rfl rfl rfl rfl hl.1 rfl (Nat.le_of_ble_eq_true rfl) dX1_readInto_11 ⟨Nat.zero_le _, Nat.zero_le _⟩ (fun r u H1 locs hp hP1 hS hfr => ?_)
  obtain ⟨rfl, hRn⟩ := hp
  have hP : va_P D vwCl (tw a k (kX T (X 0) ((sR1 T (X 0) (sAt T (X 0) 0)).2.1)) T ++ (bw a 9 k u.1 u.2)) H1 := hP1
  generalize H1 = H at hP hS ⊢
  have hD : va_D (wA (tw a k X T ++ (bw a 9 k F E))) (tw a k (kX T (X 0) ((sR1 T (X 0) (sAt T (X 0) 0)).2.1)) T ++ (bw a 9 k u.1 u.2)) := hD.same rfl
  refine lv_istore_n (lv' := [(2, .int (bI ((sR1 T (X 0) (sAt T (X 0) 0)).1))), (0, .ref (a 35)), (1, .ref (a 9))]) hz.1 hz.2.1 dX1_readInto_14 rfl hl (by decide) rfl (fun ls hl => ?_)
  refine lv_iconst (v := nI 1) hz.1 hz.2.1 dX1_readInto_15 (by decide) ?_
  refine lv_istore_n (lv' := [(3, .int (nI 1)), (2, .int (bI ((sR1 T (X 0) (sAt T (X 0) 0)).1))), (0, .ref (a 35)), (1, .ref (a 9))]) hz.1 hz.2.1 dX1_readInto_16 rfl hl (by decide) rfl (fun ls hl => ?_)
  have lp_17 : ∀ (fu : Nat) (q : Nat) (it : Nat) (fg : Nat) (sd : Bool) (M : Nat → Nat) (Fv : Nat → Nat) (Ev : Nat → Nat → Nat), (q ≤ X 0) → (sd = true → (q < X 0 ∧ it ≤ q + 1 ∧ X 0 - q < fg ∧ Wf M ∧ Rb M Fv Ev ∧ sRd T (X 0) N0 = sRdL T (X 0) fg (sNx T (X 0) q) M it)) → (sd = false → ((sRd T (X 0) N0).1 = false ∧ (sRd T (X 0) N0).2.1 = q)) → X 0 + 1 - q < fu → ∀ ls : Array Slot, ∀ (H : Heap) (locs : List Loc), va_P D vwCl (tw a k (kX T (X 0) q) T ++ (bw a 9 k Fv Ev)) H → va_S (wA (tw a k X T ++ (bw a 9 k F E))) s_.heap H locs → lv_has ls 4 [(0, .ref (a 35)), (1, .ref (a 9)), (2, .int (bI sd)), (3, .int (nI it))] → W p_ l_ e_ ({ frames := 6, cells := 0, slots := 0, locals := 129 }) s_ m_ [.ref (a 35), .ref (a 9)].toArray bl_ me_ c_ H locs 0 0 (MQ bl_ (va_Qi (fun (r : Int32) (u : Nat × (Nat → Nat) × (Nat → Nat → Nat)) => ((sRd T (X 0) N0).1 = true → r = nI (sRd T (X 0) N0).2.1 ∧ Wf (sRd T (X 0) N0).2.2 ∧ Rb (sRd T (X 0) N0).2.2 u.2.1 u.2.2) ∧ ((sRd T (X 0) N0).1 = false → r = (-10) - nI (sRd T (X 0) N0).2.1) ∧ (sRd T (X 0) N0).2.1 ≤ 300) (fun (u : Nat × (Nat → Nat) × (Nat → Nat → Nat)) (t_ : State) => va_P D vwCl ((fun (u : Nat × (Nat → Nat) × (Nat → Nat → Nat)) => tw a k (kX T (X 0) u.1) T ++ (bw a 9 k u.2.1 u.2.2)) u) t_.heap) (wA (tw a k X T ++ (bw a 9 k F E)))) [.ref (a 35), .ref (a 9)].toArray s_ 0 0 (wA (tw a k X T ++ (bw a 9 k F E)))) (F0 m_ 17 ls []) := by
    intro fu
    induction fu with
    | zero => intro q it fg sd M Fv Ev hq hgo hst hm; exact absurd hm (Nat.not_lt_zero _)
    | succ fu ih17 =>
      intro q it fg sd M Fv Ev hq hgo hst hm ls H locs hP hS hl
      have hD : va_D (wA (tw a k X T ++ (bw a 9 k F E))) (tw a k (kX T (X 0) q) T ++ (bw a 9 k Fv Ev)) := hD.same rfl
      refine lv_iload_n hz.1 hz.2.1 dX1_readInto_17 rfl (lv_at hl 2 rfl) ?_
      refine zeq (tgt := 54) hz dX1_readInto_18 (by decide) (fun c_18 => ?_) (fun c_18 => ?_)
      · refine lv_bipush (v := (-10)) hz.1 hz.2.1 dX1_readInto_54 (by decide) ?_
        refine lv_aload_n hz.1 hz.2.1 dX1_readInto_56 rfl (lv_at hl 0 rfl) ?_
        refine rg (T := TX1) (N := 5) hz hinX1_readInto_X1 hK hP 0 rfl rfl 3 (by decide) (List.mem_of_getElem? (i := 4) rfl) rfl (v := .int (nI q)) rfl dX1_readInto_57 ?_
        refine lv_isub hz.1 hz.2.1 dX1_readInto_60 ?_
        exact wr_iret hz hr hlk dX1_readInto_61 hS ((⟨q, Fv, Ev⟩ : Nat × (Nat → Nat) × (Nat → Nat → Nat))) hP (⟨fun h => absurd (h.symm.trans (hst c_18).1) (by decide), (fun _ => by rw [(hst c_18).2]), (by rw [(hst c_18).2]; omega)⟩)
      · obtain ⟨hq1, hq2, hq3, hf, hR, hgo2⟩ := hgo c_18
        have hx1 := sNx_in (T := T) hq
        have hE0 : kX T (X 0) q 3 ≤ kX T (X 0) q 0 := (sEd_le hq).2
        refine lv_iload_n hz.1 hz.2.1 dX1_readInto_21 rfl (lv_at hl 3 rfl) ?_
        refine lv_aload_n hz.1 hz.2.1 dX1_readInto_22 rfl (lv_at hl 0 rfl) ?_
        refine rg (T := TX1) (N := 5) hz hinX1_readInto_X1 hK hP 0 rfl rfl 0 (by decide) (List.mem_of_getElem? (i := 2) rfl) rfl (v := .int (nI (X 0))) rfl dX1_readInto_23 ?_
        refine jgt (tgt := 54) hz dX1_readInto_26 (by decide) (by omega) (by omega) (fun c_26 => ?_) (fun c_26 => ?_)
        · exfalso; omega
        · refine lv_aload_n hz.1 hz.2.1 dX1_readInto_29 rfl (lv_at hl 0 rfl) ?_
          refine wrVv (A := wA (tw a k X T ++ (bw a 9 k F E))) (As := []) (rest := []) hz (okAm tS sk sv) (c1_scan l_ D k a tS sk sv (kX T (X 0) q) T   hL hT (by first | exact hE0 | omega | exact Nat.zero_le _)) (cwV 0 hz.2.2.2.2 gX1_readInto_X1_scan rfl rfl rfl (by decide +kernel) ⟨Nat.le_of_ble_eq_true rfl, Nat.le_of_ble_eq_true rfl⟩) hK hy (hP.sub (ws' := tw a k (kX T (X 0) q) T) [0, 1] rfl) (hD.sub (ws' := tw a k (kX T (X 0) q) T) [0, 1] (by decide) rfl) hS 0 1 rfl rfl rfl rfl hl.1 rfl (Nat.le_of_ble_eq_true rfl) dX1_readInto_30 ⟨Nat.zero_le _, Nat.zero_le _⟩ (fun _ H1 locs hp hP1 hS hfr => ?_)
          have hP1 : va_P D vwCl (tw a k (kX T (X 0) (sNx T (X 0) q)) T) H1 := hP1
          have hP : va_P D vwCl (tw a k (kX T (X 0) (sNx T (X 0) q)) T ++ (bw a 9 k Fv Ev)) H1 := wJn (w1 := tw a k (kX T (X 0) (sNx T (X 0) q)) T) (wc := tw a k (kX T (X 0) q) T) hP hD [0, 1] rfl rfl hP1 hfr
          generalize H1 = H at hP hS ⊢
          have hD : va_D (wA (tw a k X T ++ (bw a 9 k F E))) (tw a k (kX T (X 0) (sNx T (X 0) q)) T ++ (bw a 9 k Fv Ev)) := hD.same rfl
          have hk := sKd_le T (X 0) (sNx T (X 0) q)
          refine lv_aload_n hz.1 hz.2.1 dX1_readInto_33 rfl (lv_at hl 0 rfl) ?_
          refine rg (T := TX1) (N := 5) hz hinX1_readInto_X1 hK hP 0 rfl rfl 2 (by decide) (List.mem_of_getElem? (i := 3) rfl) rfl (v := .int (nI (sKd T (X 0) (sNx T (X 0) q)))) rfl dX1_readInto_34 ?_
          refine jne0 (tgt := 42) hz dX1_readInto_37 (by decide) (by omega) (fun c_37 => ?_) (fun c_37 => ?_)
          · have hi1 := sIt_le (T := T) (p := sNx T (X 0) q) M hx1.2.1
            refine lv_aload_n hz.1 hz.2.1 dX1_readInto_42 rfl (lv_at hl 0 rfl) ?_
            refine lv_aload_n hz.1 hz.2.1 dX1_readInto_43 rfl (lv_at hl 1 rfl) ?_
            refine wrV (A := wA (tw a k X T ++ (bw a 9 k F E))) (As := [.ref (a 9)]) (rest := []) hz (okAm tS sk sv) (c1_readItem l_ D k a tS sk sv X T Fv Ev (sNx T (X 0) q) M  hL hT (by omega) hR hf) (cwV 1 hz.2.2.2.2 gX1_readInto_X1_readItem rfl rfl rfl (by decide +kernel) ⟨Nat.le_of_ble_eq_true rfl, Nat.le_of_ble_eq_true rfl⟩) hK hy hP hD hS 0 1 rfl rfl rfl rfl hl.1 rfl (Nat.le_of_ble_eq_true rfl) dX1_readInto_44 ⟨Nat.zero_le _, Nat.zero_le _⟩ (fun r u H1 locs hp hP1 hS hfr => ?_)
            obtain ⟨rfl, hRn⟩ := hp
            have hP : va_P D vwCl (tw a k (kX T (X 0) ((sIt T (X 0) (sNx T (X 0) q) M).2.1)) T ++ (bw a 9 k u.1 u.2)) H1 := hP1
            generalize H1 = H at hP hS ⊢
            have hD : va_D (wA (tw a k X T ++ (bw a 9 k F E))) (tw a k (kX T (X 0) ((sIt T (X 0) (sNx T (X 0) q) M).2.1)) T ++ (bw a 9 k u.1 u.2)) := hD.same rfl
            refine lv_istore_n (lv' := [(2, .int (bI (kOK T (X 0) (sIt T (X 0) (sNx T (X 0) q) M)))), (0, .ref (a 35)), (1, .ref (a 9)), (3, .int (nI it))]) hz.1 hz.2.1 dX1_readInto_47 rfl hl (by decide) rfl (fun ls hl => ?_)
            refine lv_iinc (v := nI (it + 1)) (lv' := [(3, .int (nI (it + 1))), (2, .int (bI (kOK T (X 0) (sIt T (X 0) (sNx T (X 0) q) M)))), (0, .ref (a 35)), (1, .ref (a 9))]) hz.1 hz.2.1 dX1_readInto_48 hl (k := 3) rfl (nI_add _ 1) (by decide) rfl (fun ls hl => ?_)
            refine lv_goto (tgt := 17) hz.1 hz.2.1 dX1_readInto_51 (by decide) ?_
            exact ih17 ((sIt T (X 0) (sNx T (X 0) q) M).2.1) (it + 1) (fg - 1) (kOK T (X 0) (sIt T (X 0) (sNx T (X 0) q) M)) ((sIt T (X 0) (sNx T (X 0) q) M).2.2) u.1 u.2 (hi1.2) (fun h => ⟨sKd_pos (by rw [(kOK_t h).2]; decide), by omega, by omega, sIt_Wf hf (kOK_t h).1, hRn (kOK_t h).1, hgo2.trans (rdl_go c_37 h (by omega))⟩) (fun h => by rw [hgo2, rdl_no c_37 h (by omega)]; exact ⟨rfl, rfl⟩) (by omega) ls H locs hP hS (lv_sub hl [2, 3, 1, 0] rfl)
          · have eR := hgo2.trans (rdl_end c_37 (by omega))
            refine lv_iload_n hz.1 hz.2.1 dX1_readInto_40 rfl (lv_at hl 3 rfl) ?_
            exact wr_iret hz hr hlk dX1_readInto_41 hS ((⟨sNx T (X 0) q, Fv, Ev⟩ : Nat × (Nat → Nat) × (Nat → Nat → Nat))) hP (⟨(fun _ => by rw [eR]; exact ⟨rfl, hf, hR⟩), (fun h => by rw [eR] at h; cases h), (by rw [eR]; show it ≤ 300; omega)⟩)
  exact lp_17 _ ((sR1 T (X 0) (sAt T (X 0) 0)).2.1) 1 300 ((sR1 T (X 0) (sAt T (X 0) 0)).1) (sBegin N0 (sR1 T (X 0) (sAt T (X 0) 0)).2.2) u.1 u.2 (sR1_le ha0) (fun h => ⟨sR1_lt h, by omega, by have := sR1_lt h; omega, sR1_Wf h, hRn h N0, by rw [sRd, if_pos h]⟩) (fun h => by rw [sRd, if_neg (by rw [h]; decide)]; exact ⟨rfl, rfl⟩) (Nat.lt_succ_self _) ls _ _ hP hS (lv_sub hl [2, 3, 1, 0] rfl)

theorem hinX5_type_X5 : ∀ w ∈ wsX50, w ∈ wsX5_type := fun _ h => List.mem_cons_of_mem _ (List.mem_append_left _ (List.mem_append_right _ h))
theorem hinX5_type_X1 : ∀ w ∈ wsX10, w ∈ wsX5_type := fun _ h => List.mem_cons_of_mem _ (List.mem_append_right _ h)
set_option maxHeartbeats 4000000 in
set_option maxRecDepth 100000 in
theorem c5_type_bad (l_ : Launch) (D : va_G) (k : Nat → ClassId) (a : Nat → Nat) (tS : Nat) (sk sv : Nat → Nat) (C : Nat → Nat) (F : Nat → Nat) (E : Nat → Nat → Nat) (M : Nat → Nat) (v : Int64) (x : Int32) (hR : Rb M F E) (hf : Wf M) (hb : wIn x 1 8 = false) : Met l_ yX5_type wsX5_type ({ frames := 1, cells := 0, slots := 0, locals := 22 }) (va_Pc [.ref (a 0), .long v, .int x] (wH (Am tS sk sv) D k (ho a C ++ (bw a 1 k F E)))) (va_Qi (fun (r : Int32) (u : Unit) => r = -2) (fun (u : Unit) (t_ : State) => va_P D vwCl ((fun (_ : Unit) => ho a (nset C 0 (C 0 + 1)) ++ (bw a 1 k F E)) u) t_.heap) (wA (ho a C ++ (bw a 1 k F E)))) 0 0 (wA (ho a C ++ (bw a 1 k F E))) := by
  refine my_entry (cc := cX5_type) (maxL := 4) (ret := some .int) (by decide) rfl (Nat.le_of_ble_eq_true rfl) ?_
  intro p_ e_ s_ m_ bl_ me_ c_ hz hr hlk hB ls hl
  obtain ⟨hP, hK, hD0, hy⟩ := hB
  have hD := wA.self hD0
  have hS : va_S (wA (ho a C ++ (bw a 1 k F E))) s_.heap s_.heap [] := va_S.rf
  have hl : lv_has ls 4 [(0, .ref (a 0)), (1, .long v), (3, .int x)] := hl
  have f0 := hf.n2
  have f1 := hf.n9
  have f2 := hf.fr
  have f3 := hf.gd
  have f4 := hf.pc
  have f5 := hf.wc
  have e0 : F 0 = M 0 := hR.1.1
  have e1 : F 1 = M 1 := hR.1.2.1
  have e2 : F 2 = M 2 := hR.1.2.2.1
  have e3 : F 3 = M 19 := hR.1.2.2.2.1
  have e4 : F 4 = M 32 := hR.1.2.2.2.2
  refine lv_iload_n hz.1 hz.2.1 dX5_type_0 rfl (lv_at hl 2 rfl) ?_
  refine lv_iconst (v := nI 1) hz.1 hz.2.1 dX5_type_1 (by decide) ?_
  refine lv_bipush (v := nI 8) hz.1 hz.2.1 dX5_type_2 (by decide) ?_
  refine rdS (As := [.int x, .int (nI 1), .int (nI 8)]) (rest := []) hz (c5_within l_ x 1 8 ) rfl (va_cwS 3 hz.2.2.2.2 gX5_type_X5_within rfl rfl rfl (by decide +kernel) ⟨Nat.le_of_ble_eq_true rfl, Nat.le_of_ble_eq_true rfl⟩) rfl hl.1 rfl (Nat.le_of_ble_eq_true rfl) dX5_type_4 ⟨Nat.zero_le _, Nat.zero_le _⟩ ?_
  refine zne (tgt := 17) hz dX5_type_7 (by decide) (fun c_7 => ?_) (fun c_7 => ?_)
  · simp [c_7] at hb
  · refine lv_aload_n hz.1 hz.2.1 dX5_type_10 rfl (lv_at hl 0 rfl) ?_
    refine lv_bipush (v := (-2)) hz.1 hz.2.1 dX5_type_11 (by decide) ?_
    refine wrV (A := wA (ho a C ++ (bw a 1 k F E))) (As := [.int (-2)]) (rest := []) hz (okAm tS sk sv) (c5_bad l_ D k a tS sk sv C  (-2) ) (cwV 1 hz.2.2.2.2 gX5_type_X5_bad rfl rfl rfl (by decide +kernel) ⟨Nat.le_of_ble_eq_true rfl, Nat.le_of_ble_eq_true rfl⟩) hK hy (hP.sub (ws' := ho a C) [0] rfl) (hD.sub (ws' := ho a C) [0] (by decide) rfl) hS 0 5 rfl rfl rfl rfl hl.1 rfl (Nat.le_of_ble_eq_true rfl) dX5_type_13 ⟨Nat.zero_le _, Nat.zero_le _⟩ (fun r _ H1 locs hp hP1 hS hfr => ?_)
    obtain rfl : r = -2 := hp
    have hP1 : va_P D vwCl (ho a (nset C 0 (C 0 + 1))) H1 := hP1
    have hP : va_P D vwCl (ho a (nset C 0 (C 0 + 1)) ++ (bw a 1 k F E)) H1 := wJn (w1 := ho a (nset C 0 (C 0 + 1))) (wc := ho a C) hP hD [0] rfl rfl hP1 hfr
    generalize H1 = H at hP hS ⊢
    have hD : va_D (wA (ho a C ++ (bw a 1 k F E))) (ho a (nset C 0 (C 0 + 1)) ++ (bw a 1 k F E)) := hD.same rfl
    exact wr_iret hz hr hlk dX5_type_16 hS (()) hP (rfl)

set_option maxHeartbeats 4000000 in
set_option maxRecDepth 100000 in
theorem c5_type_ok (l_ : Launch) (D : va_G) (k : Nat → ClassId) (a : Nat → Nat) (tS : Nat) (sk sv : Nat → Nat) (C : Nat → Nat) (F : Nat → Nat) (E : Nat → Nat → Nat) (X : Nat → Nat) (T : Nat → Nat) (M : Nat → Nat) (v : Int64) (n : Nat) (hR : Rb M F E) (hf : Wf M) (h1 : 1 ≤ n) (h2 : n ≤ 8) (h3 : X 0 + n ≤ 200) : Met l_ yX5_type wsX5_type ({ frames := 1, cells := 0, slots := 0, locals := 24 }) (va_Pc [.ref (a 0), .long v, .int (nI n)] (wH (Am tS sk sv) D k (ho a C ++ (bw a 1 k F E ++ (tw a k X T))))) (va_Qi (fun (r : Int32) (u : Unit) => r = nI (X 0 + n)) (fun (u : Unit) (t_ : State) => va_P D vwCl ((fun (_ : Unit) => ho a C ++ (bw a 1 k F E ++ (tw a k (nset X 0 (X 0 + n)) (sTy T (X 0) v n n)))) u) t_.heap) (wA (ho a C ++ (bw a 1 k F E ++ (tw a k X T))))) 0 0 (wA (ho a C ++ (bw a 1 k F E ++ (tw a k X T)))) := by
  refine my_entry (cc := cX5_type) (maxL := 4) (ret := some .int) (by decide) rfl (Nat.le_of_ble_eq_true rfl) ?_
  intro p_ e_ s_ m_ bl_ me_ c_ hz hr hlk hB ls hl
  obtain ⟨hP, hK, hD0, hy⟩ := hB
  have hD := wA.self hD0
  have hS : va_S (wA (ho a C ++ (bw a 1 k F E ++ (tw a k X T)))) s_.heap s_.heap [] := va_S.rf
  have hl : lv_has ls 4 [(0, .ref (a 0)), (1, .long v), (3, .int (nI n))] := hl
  have f0 := hf.n2
  have f1 := hf.n9
  have f2 := hf.fr
  have f3 := hf.gd
  have f4 := hf.pc
  have f5 := hf.wc
  have e0 : F 0 = M 0 := hR.1.1
  have e1 : F 1 = M 1 := hR.1.2.1
  have e2 : F 2 = M 2 := hR.1.2.2.1
  have e3 : F 3 = M 19 := hR.1.2.2.2.1
  have e4 : F 4 = M 32 := hR.1.2.2.2.2
  refine lv_iload_n hz.1 hz.2.1 dX5_type_0 rfl (lv_at hl 2 rfl) ?_
  refine lv_iconst (v := nI 1) hz.1 hz.2.1 dX5_type_1 (by decide) ?_
  refine lv_bipush (v := nI 8) hz.1 hz.2.1 dX5_type_2 (by decide) ?_
  refine rdS (As := [.int (nI n), .int (nI 1), .int (nI 8)]) (rest := []) hz (c5_within l_ (nI n) 1 8 ) rfl (va_cwS 3 hz.2.2.2.2 gX5_type_X5_within rfl rfl rfl (by decide +kernel) ⟨Nat.le_of_ble_eq_true rfl, Nat.le_of_ble_eq_true rfl⟩) rfl hl.1 rfl (Nat.le_of_ble_eq_true rfl) dX5_type_4 ⟨Nat.zero_le _, Nat.zero_le _⟩ ?_
  refine zne (tgt := 17) hz dX5_type_7 (by decide) (fun c_7 => ?_) (fun c_7 => ?_)
  · refine lv_aload_n hz.1 hz.2.1 dX5_type_17 rfl (lv_at hl 0 rfl) ?_
    refine rg (T := TX5) (N := 11) hz hinX5_type_X5 hK hP 0 rfl rfl 4 (by decide) (List.mem_of_getElem? (i := 1) rfl) rfl (v := .ref (a 35)) rfl dX5_type_18 ?_
    refine rg (T := TX1) (N := 5) hz hinX5_type_X1 hK hP 9 rfl rfl 0 (by decide) (List.mem_of_getElem? (i := 2) rfl) rfl (v := .int (nI (X 0))) rfl dX5_type_21 ?_
    refine lv_iload_n hz.1 hz.2.1 dX5_type_24 rfl (lv_at hl 2 rfl) ?_
    refine lv_iadd hz.1 hz.2.1 dX5_type_25 ?_
    refine toe (z := nI ((X 0) + n)) (nI_add _ _) ?_
    refine lv_sipush (v := nI 200) hz.1 hz.2.1 dX5_type_26 (by decide) ?_
    refine jle (tgt := 37) hz dX5_type_29 (by decide) (by omega) (by omega) (fun c_29 => ?_) (fun c_29 => ?_)
    · refine lv_aload_n hz.1 hz.2.1 dX5_type_37 rfl (lv_at hl 0 rfl) ?_
      refine rg (T := TX5) (N := 11) hz hinX5_type_X5 hK hP 0 rfl rfl 4 (by decide) (List.mem_of_getElem? (i := 1) rfl) rfl (v := .ref (a 35)) rfl dX5_type_38 ?_
      refine lv_lload_n hz.1 hz.2.1 dX5_type_41 rfl (lv_at hl 1 rfl) ?_
      refine lv_iload_n hz.1 hz.2.1 dX5_type_42 rfl (lv_at hl 2 rfl) ?_
      refine wrVv (A := wA (ho a C ++ (bw a 1 k F E ++ (tw a k X T)))) (As := [.long v, .int (nI n)]) (rest := []) hz (okAm tS sk sv) (c1_append l_ D k a tS sk sv X T  v n (by omega) (by omega) (by omega)) (cwV 2 hz.2.2.2.2 gX5_type_X1_append rfl rfl rfl (by decide +kernel) ⟨Nat.le_of_ble_eq_true rfl, Nat.le_of_ble_eq_true rfl⟩) hK hy (hP.sub (ws' := tw a k X T) [9, 10] rfl) (hD.sub (ws' := tw a k X T) [9, 10] (by decide) rfl) hS 0 1 rfl rfl rfl rfl hl.1 rfl (Nat.le_of_ble_eq_true rfl) dX5_type_43 ⟨Nat.zero_le _, Nat.zero_le _⟩ (fun _ H1 locs hp hP1 hS hfr => ?_)
      have hP1 : va_P D vwCl (tw a k (nset X 0 (X 0 + n)) (sTy T (X 0) v n n)) H1 := hP1
      have hP : va_P D vwCl (ho a C ++ (bw a 1 k F E ++ (tw a k (nset X 0 (X 0 + n)) (sTy T (X 0) v n n)))) H1 := wJn (w1 := tw a k (nset X 0 (X 0 + n)) (sTy T (X 0) v n n)) (wc := tw a k X T) hP hD [9, 10] rfl rfl hP1 hfr
      generalize H1 = H at hP hS ⊢
      have hD : va_D (wA (ho a C ++ (bw a 1 k F E ++ (tw a k X T)))) (ho a C ++ (bw a 1 k F E ++ (tw a k (nset X 0 (X 0 + n)) (sTy T (X 0) v n n)))) := hD.same2 [a 0, a 1, a 2, a 3, a 4, a 5, a 6, a 7, a 8, a 35, a 36] rfl rfl
      refine lv_aload_n hz.1 hz.2.1 dX5_type_46 rfl (lv_at hl 0 rfl) ?_
      refine rg (T := TX5) (N := 11) hz hinX5_type_X5 hK hP 0 rfl rfl 4 (by decide) (List.mem_of_getElem? (i := 1) rfl) rfl (v := .ref (a 35)) rfl dX5_type_47 ?_
      refine rg (T := TX1) (N := 5) hz hinX5_type_X1 hK hP 9 rfl rfl 0 (by decide) (List.mem_of_getElem? (i := 2) rfl) rfl (v := .int (nI (X 0 + n))) rfl dX5_type_50 ?_
      exact wr_iret hz hr hlk dX5_type_53 hS (()) hP (rfl)
    · exact absurd c_29 (by omega)
  · exact absurd ((wIn_ok (by omega) (by omega) (by omega)).symm.trans c_7) (by decide)

set_option maxHeartbeats 4000000 in
set_option maxRecDepth 100000 in
theorem c5_type_full (l_ : Launch) (D : va_G) (k : Nat → ClassId) (a : Nat → Nat) (tS : Nat) (sk sv : Nat → Nat) (C : Nat → Nat) (F : Nat → Nat) (E : Nat → Nat → Nat) (X : Nat → Nat) (T : Nat → Nat) (M : Nat → Nat) (v : Int64) (n : Nat) (hR : Rb M F E) (hf : Wf M) (h1 : 1 ≤ n) (h2 : n ≤ 8) (h3 : 200 < X 0 + n) (h4 : X 0 ≤ 200) : Met l_ yX5_type wsX5_type ({ frames := 1, cells := 0, slots := 0, locals := 22 }) (va_Pc [.ref (a 0), .long v, .int (nI n)] (wH (Am tS sk sv) D k (ho a C ++ (bw a 1 k F E ++ (tw a k X T))))) (va_Qi (fun (r : Int32) (u : Unit) => r = -4) (fun (u : Unit) (t_ : State) => va_P D vwCl ((fun (_ : Unit) => ho a (nset C 2 (C 2 + 1)) ++ (bw a 1 k F E ++ (tw a k X T))) u) t_.heap) (wA (ho a C ++ (bw a 1 k F E ++ (tw a k X T))))) 0 0 (wA (ho a C ++ (bw a 1 k F E ++ (tw a k X T)))) := by
  refine my_entry (cc := cX5_type) (maxL := 4) (ret := some .int) (by decide) rfl (Nat.le_of_ble_eq_true rfl) ?_
  intro p_ e_ s_ m_ bl_ me_ c_ hz hr hlk hB ls hl
  obtain ⟨hP, hK, hD0, hy⟩ := hB
  have hD := wA.self hD0
  have hS : va_S (wA (ho a C ++ (bw a 1 k F E ++ (tw a k X T)))) s_.heap s_.heap [] := va_S.rf
  have hl : lv_has ls 4 [(0, .ref (a 0)), (1, .long v), (3, .int (nI n))] := hl
  have f0 := hf.n2
  have f1 := hf.n9
  have f2 := hf.fr
  have f3 := hf.gd
  have f4 := hf.pc
  have f5 := hf.wc
  have e0 : F 0 = M 0 := hR.1.1
  have e1 : F 1 = M 1 := hR.1.2.1
  have e2 : F 2 = M 2 := hR.1.2.2.1
  have e3 : F 3 = M 19 := hR.1.2.2.2.1
  have e4 : F 4 = M 32 := hR.1.2.2.2.2
  refine lv_iload_n hz.1 hz.2.1 dX5_type_0 rfl (lv_at hl 2 rfl) ?_
  refine lv_iconst (v := nI 1) hz.1 hz.2.1 dX5_type_1 (by decide) ?_
  refine lv_bipush (v := nI 8) hz.1 hz.2.1 dX5_type_2 (by decide) ?_
  refine rdS (As := [.int (nI n), .int (nI 1), .int (nI 8)]) (rest := []) hz (c5_within l_ (nI n) 1 8 ) rfl (va_cwS 3 hz.2.2.2.2 gX5_type_X5_within rfl rfl rfl (by decide +kernel) ⟨Nat.le_of_ble_eq_true rfl, Nat.le_of_ble_eq_true rfl⟩) rfl hl.1 rfl (Nat.le_of_ble_eq_true rfl) dX5_type_4 ⟨Nat.zero_le _, Nat.zero_le _⟩ ?_
  refine zne (tgt := 17) hz dX5_type_7 (by decide) (fun c_7 => ?_) (fun c_7 => ?_)
  · refine lv_aload_n hz.1 hz.2.1 dX5_type_17 rfl (lv_at hl 0 rfl) ?_
    refine rg (T := TX5) (N := 11) hz hinX5_type_X5 hK hP 0 rfl rfl 4 (by decide) (List.mem_of_getElem? (i := 1) rfl) rfl (v := .ref (a 35)) rfl dX5_type_18 ?_
    refine rg (T := TX1) (N := 5) hz hinX5_type_X1 hK hP 9 rfl rfl 0 (by decide) (List.mem_of_getElem? (i := 2) rfl) rfl (v := .int (nI (X 0))) rfl dX5_type_21 ?_
    refine lv_iload_n hz.1 hz.2.1 dX5_type_24 rfl (lv_at hl 2 rfl) ?_
    refine lv_iadd hz.1 hz.2.1 dX5_type_25 ?_
    refine toe (z := nI ((X 0) + n)) (nI_add _ _) ?_
    refine lv_sipush (v := nI 200) hz.1 hz.2.1 dX5_type_26 (by decide) ?_
    refine jle (tgt := 37) hz dX5_type_29 (by decide) (by omega) (by omega) (fun c_29 => ?_) (fun c_29 => ?_)
    · exact absurd c_29 (by omega)
    · refine lv_aload_n hz.1 hz.2.1 dX5_type_32 rfl (lv_at hl 0 rfl) ?_
      refine wrV (A := wA (ho a C ++ (bw a 1 k F E ++ (tw a k X T)))) (As := []) (rest := []) hz (okAm tS sk sv) (c5_full l_ D k a tS sk sv C   ) (cwV 0 hz.2.2.2.2 gX5_type_X5_full rfl rfl rfl (by decide +kernel) ⟨Nat.le_of_ble_eq_true rfl, Nat.le_of_ble_eq_true rfl⟩) hK hy (hP.sub (ws' := ho a C) [0] rfl) (hD.sub (ws' := ho a C) [0] (by decide) rfl) hS 0 5 rfl rfl rfl rfl hl.1 rfl (Nat.le_of_ble_eq_true rfl) dX5_type_33 ⟨Nat.zero_le _, Nat.zero_le _⟩ (fun r _ H1 locs hp hP1 hS hfr => ?_)
      obtain rfl : r = -4 := hp
      have hP1 : va_P D vwCl (ho a (nset C 2 (C 2 + 1))) H1 := hP1
      have hP : va_P D vwCl (ho a (nset C 2 (C 2 + 1)) ++ (bw a 1 k F E ++ (tw a k X T))) H1 := wJn (w1 := ho a (nset C 2 (C 2 + 1))) (wc := ho a C) hP hD [0] rfl rfl hP1 hfr
      generalize H1 = H at hP hS ⊢
      have hD : va_D (wA (ho a C ++ (bw a 1 k F E ++ (tw a k X T)))) (ho a (nset C 2 (C 2 + 1)) ++ (bw a 1 k F E ++ (tw a k X T))) := hD.same2 [a 0, a 1, a 2, a 3, a 4, a 5, a 6, a 7, a 8, a 35, a 36] rfl rfl
      exact wr_iret hz hr hlk dX5_type_36 hS (()) hP (rfl)
  · exact absurd ((wIn_ok (by omega) (by omega) (by omega)).symm.trans c_7) (by decide)

theorem hinX5_read_X5 : ∀ w ∈ wsX50, w ∈ wsX5_read := fun _ h => List.mem_cons_of_mem _ (List.mem_append_left _ (List.mem_append_left _ (List.mem_append_right _ h)))
theorem hinX5_read_X1 : ∀ w ∈ wsX10, w ∈ wsX5_read := fun _ h => List.mem_cons_of_mem _ (List.mem_append_left _ (List.mem_append_right _ h))
theorem hinX5_read_X0 : ∀ w ∈ wsX00, w ∈ wsX5_read := fun _ h => List.mem_cons_of_mem _ (List.mem_append_right _ h)
set_option maxHeartbeats 4000000 in
set_option maxRecDepth 100000 in
theorem c5_read_ok (l_ : Launch) (D : va_G) (k : Nat → ClassId) (a : Nat → Nat) (tS : Nat) (sk sv : Nat → Nat) (C : Nat → Nat) (F : Nat → Nat) (E : Nat → Nat → Nat) (Fd : Nat → Nat) (Ed : Nat → Nat → Nat) (X : Nat → Nat) (T : Nat → Nat) (M : Nat → Nat) (N0 : Nat → Nat) (hR : Rb M F E) (hf : Wf M) (hL : X 0 ≤ 200) (hT : ∀ j, T j < 256) (hb : (sRd T (X 0) N0).1 = true) : Met l_ yX5_read wsX5_read ({ frames := 7, cells := 0, slots := 0, locals := 152 }) (va_Pc [.ref (a 0)] (wH (Am tS sk sv) D k (ho a C ++ (bw a 1 k F E ++ (bw a 9 k Fd Ed ++ (tw a k X T)))))) (va_Qi (fun (r : Int32) (u : Nat × ((Nat → Nat) × (Nat → Nat → Nat)) × ((Nat → Nat) × (Nat → Nat → Nat))) => r = nI (sRd T (X 0) N0).2.1 ∧ Wf (sRd T (X 0) N0).2.2 ∧ Rb (sRd T (X 0) N0).2.2 u.2.2.1 u.2.2.2) (fun (u : Nat × ((Nat → Nat) × (Nat → Nat → Nat)) × ((Nat → Nat) × (Nat → Nat → Nat))) (t_ : State) => va_P D vwCl ((fun (u : Nat × ((Nat → Nat) × (Nat → Nat → Nat)) × ((Nat → Nat) × (Nat → Nat → Nat))) => ho a C ++ (bw a 1 k u.2.2.1 u.2.2.2 ++ (bw a 9 k u.2.1.1 u.2.1.2 ++ (tw a k (kX T (X 0) u.1) T)))) u) t_.heap) (wA (ho a C ++ (bw a 1 k F E ++ (bw a 9 k Fd Ed ++ (tw a k X T)))))) 0 0 (wA (ho a C ++ (bw a 1 k F E ++ (bw a 9 k Fd Ed ++ (tw a k X T))))) := by
  refine my_entry (cc := cX5_read) (maxL := 2) (ret := some .int) (by decide) rfl (Nat.le_of_ble_eq_true rfl) ?_
  intro p_ e_ s_ m_ bl_ me_ c_ hz hr hlk hB ls hl
  obtain ⟨hP, hK, hD0, hy⟩ := hB
  have hD := wA.self hD0
  have hS : va_S (wA (ho a C ++ (bw a 1 k F E ++ (bw a 9 k Fd Ed ++ (tw a k X T))))) s_.heap s_.heap [] := va_S.rf
  have hl : lv_has ls 2 [(0, .ref (a 0))] := hl
  have f0 := hf.n2
  have f1 := hf.n9
  have f2 := hf.fr
  have f3 := hf.gd
  have f4 := hf.pc
  have f5 := hf.wc
  have e0 : F 0 = M 0 := hR.1.1
  have e1 : F 1 = M 1 := hR.1.2.1
  have e2 : F 2 = M 2 := hR.1.2.2.1
  have e3 : F 3 = M 19 := hR.1.2.2.2.1
  have e4 : F 4 = M 32 := hR.1.2.2.2.2
  refine lv_aload_n hz.1 hz.2.1 dX5_read_0 rfl (lv_at hl 0 rfl) ?_
  refine rg (T := TX5) (N := 11) hz hinX5_read_X5 hK hP 0 rfl rfl 4 (by decide) (List.mem_of_getElem? (i := 1) rfl) rfl (v := .ref (a 35)) rfl dX5_read_1 ?_
  refine lv_aload_n hz.1 hz.2.1 dX5_read_4 rfl (lv_at hl 0 rfl) ?_
  refine rg (T := TX5) (N := 11) hz hinX5_read_X5 hK hP 0 rfl rfl 1 (by decide) (List.mem_of_getElem? (i := 2) rfl) rfl (v := .ref (a 9)) rfl dX5_read_5 ?_
  refine wrV (A := wA (ho a C ++ (bw a 1 k F E ++ (bw a 9 k Fd Ed ++ (tw a k X T))))) (As := [.ref (a 9)]) (rest := []) hz (okAm tS sk sv) (c1_readInto l_ D k a tS sk sv X T Fd Ed N0 hL hT) (cwV 1 hz.2.2.2.2 gX5_read_X1_readInto rfl rfl rfl (by decide +kernel) ⟨Nat.le_of_ble_eq_true rfl, Nat.le_of_ble_eq_true rfl⟩) hK hy (hP.sub (ws' := tw a k X T ++ (bw a 9 k Fd Ed)) [17, 18, 9, 10, 11, 12, 13, 14, 15, 16] rfl) (hD.sub (ws' := tw a k X T ++ (bw a 9 k Fd Ed)) [17, 18, 9, 10, 11, 12, 13, 14, 15, 16] (by decide) rfl) hS 0 1 rfl rfl rfl rfl hl.1 rfl (Nat.le_of_ble_eq_true rfl) dX5_read_8 ⟨Nat.zero_le _, Nat.zero_le _⟩ (fun r u H1 locs hp hP1 hS hfr => ?_)
  obtain ⟨hp1, hp2, hp3⟩ := hp
  obtain ⟨rfl, hWd, hRd⟩ := hp1 hb
  have hP1 : va_P D vwCl (tw a k (kX T (X 0) u.1) T ++ (bw a 9 k u.2.1 u.2.2)) H1 := hP1
  have hP : va_P D vwCl (ho a C ++ (bw a 1 k F E ++ (bw a 9 k u.2.1 u.2.2 ++ (tw a k (kX T (X 0) u.1) T)))) H1 := wJn (w1 := tw a k (kX T (X 0) u.1) T ++ (bw a 9 k u.2.1 u.2.2)) (wc := tw a k X T ++ (bw a 9 k Fd Ed)) hP hD [17, 18, 9, 10, 11, 12, 13, 14, 15, 16] rfl rfl hP1 hfr
  generalize H1 = H at hP hS ⊢
  have hD : va_D (wA (ho a C ++ (bw a 1 k F E ++ (bw a 9 k Fd Ed ++ (tw a k X T))))) (ho a C ++ (bw a 1 k F E ++ (bw a 9 k u.2.1 u.2.2 ++ (tw a k (kX T (X 0) u.1) T)))) := hD.same rfl
  refine lv_istore_n (lv' := [(1, .int (nI ((sRd T (X 0) N0).2.1))), (0, .ref (a 0))]) hz.1 hz.2.1 dX5_read_11 rfl hl (by decide) rfl (fun ls hl => ?_)
  refine lv_iload_n hz.1 hz.2.1 dX5_read_12 rfl (lv_at hl 0 rfl) ?_
  refine lv_if_lt (tgt := 27) hz.1 hz.2.1 dX5_read_13 (by decide) (fun c_13 => ?_) (fun c_13 => ?_)
  · exact absurd c_13 (nI_pos (by omega))
  · refine lv_aload_n hz.1 hz.2.1 dX5_read_16 rfl (lv_at hl 1 rfl) ?_
    refine rg (T := TX5) (N := 11) hz hinX5_read_X5 hK hP 0 rfl rfl 0 (by decide) (List.mem_of_getElem? (i := 3) rfl) rfl (v := .ref (a 1)) rfl dX5_read_17 ?_
    refine lv_aload_n hz.1 hz.2.1 dX5_read_20 rfl (lv_at hl 1 rfl) ?_
    refine rg (T := TX5) (N := 11) hz hinX5_read_X5 hK hP 0 rfl rfl 1 (by decide) (List.mem_of_getElem? (i := 2) rfl) rfl (v := .ref (a 9)) rfl dX5_read_21 ?_
    refine wrVv (A := wA (ho a C ++ (bw a 1 k F E ++ (bw a 9 k Fd Ed ++ (tw a k X T))))) (As := [.ref (a 9)]) (rest := []) hz (okAm tS sk sv) (c0_takeFrom l_ D k a 1 9 tS sk sv F E u.2.1 u.2.2   ) (cwV 1 hz.2.2.2.2 gX5_read_X0_takeFrom rfl rfl rfl (by decide +kernel) ⟨Nat.le_of_ble_eq_true rfl, Nat.le_of_ble_eq_true rfl⟩) hK hy (hP.sub (ws' := bw a 1 k F E ++ (bw a 9 k u.2.1 u.2.2)) [1, 2, 3, 4, 5, 6, 7, 8, 9, 10, 11, 12, 13, 14, 15, 16] rfl) (hD.sub (ws' := bw a 1 k F E ++ (bw a 9 k u.2.1 u.2.2)) [1, 2, 3, 4, 5, 6, 7, 8, 9, 10, 11, 12, 13, 14, 15, 16] (by decide) rfl) hS 0 0 rfl rfl rfl rfl hl.1 rfl (Nat.le_of_ble_eq_true rfl) dX5_read_24 ⟨Nat.zero_le _, Nat.zero_le _⟩ (fun _ H1 locs hp hP1 hS hfr => ?_)
    have hP1 : va_P D vwCl (bw a 1 k (nset (nset (nset (nset (nset F 0 (u.2.1 0)) 1 (u.2.1 1)) 2 (u.2.1 2)) 3 (u.2.1 3)) 4 (u.2.1 4)) (gset (gset (gset (gset (gset (gset (gset E 0 (ccpy (E 0) (u.2.2 0) 8)) 1 (ccpy (E 1) (u.2.2 1) 8)) 2 (ccpy (E 2) (u.2.2 2) 6)) 3 (ccpy (E 3) (u.2.2 3) 6)) 4 (ccpy (E 4) (u.2.2 4) 8)) 5 (ccpy (E 5) (u.2.2 5) 8)) 6 (ccpy (E 6) (u.2.2 6) 8)) ++ (bw a 9 k u.2.1 u.2.2)) H1 := hP1
    have hP : va_P D vwCl (ho a C ++ (bw a 1 k (nset (nset (nset (nset (nset F 0 (u.2.1 0)) 1 (u.2.1 1)) 2 (u.2.1 2)) 3 (u.2.1 3)) 4 (u.2.1 4)) (gset (gset (gset (gset (gset (gset (gset E 0 (ccpy (E 0) (u.2.2 0) 8)) 1 (ccpy (E 1) (u.2.2 1) 8)) 2 (ccpy (E 2) (u.2.2 2) 6)) 3 (ccpy (E 3) (u.2.2 3) 6)) 4 (ccpy (E 4) (u.2.2 4) 8)) 5 (ccpy (E 5) (u.2.2 5) 8)) 6 (ccpy (E 6) (u.2.2 6) 8)) ++ (bw a 9 k u.2.1 u.2.2 ++ (tw a k (kX T (X 0) u.1) T)))) H1 := wJn (w1 := bw a 1 k (nset (nset (nset (nset (nset F 0 (u.2.1 0)) 1 (u.2.1 1)) 2 (u.2.1 2)) 3 (u.2.1 3)) 4 (u.2.1 4)) (gset (gset (gset (gset (gset (gset (gset E 0 (ccpy (E 0) (u.2.2 0) 8)) 1 (ccpy (E 1) (u.2.2 1) 8)) 2 (ccpy (E 2) (u.2.2 2) 6)) 3 (ccpy (E 3) (u.2.2 3) 6)) 4 (ccpy (E 4) (u.2.2 4) 8)) 5 (ccpy (E 5) (u.2.2 5) 8)) 6 (ccpy (E 6) (u.2.2 6) 8)) ++ (bw a 9 k u.2.1 u.2.2)) (wc := bw a 1 k F E ++ (bw a 9 k u.2.1 u.2.2)) hP hD [1, 2, 3, 4, 5, 6, 7, 8, 9, 10, 11, 12, 13, 14, 15, 16] rfl rfl hP1 hfr
    generalize H1 = H at hP hS ⊢
    have hD : va_D (wA (ho a C ++ (bw a 1 k F E ++ (bw a 9 k Fd Ed ++ (tw a k X T))))) (ho a C ++ (bw a 1 k (nset (nset (nset (nset (nset F 0 (u.2.1 0)) 1 (u.2.1 1)) 2 (u.2.1 2)) 3 (u.2.1 3)) 4 (u.2.1 4)) (gset (gset (gset (gset (gset (gset (gset E 0 (ccpy (E 0) (u.2.2 0) 8)) 1 (ccpy (E 1) (u.2.2 1) 8)) 2 (ccpy (E 2) (u.2.2 2) 6)) 3 (ccpy (E 3) (u.2.2 3) 6)) 4 (ccpy (E 4) (u.2.2 4) 8)) 5 (ccpy (E 5) (u.2.2 5) 8)) 6 (ccpy (E 6) (u.2.2 6) 8)) ++ (bw a 9 k u.2.1 u.2.2 ++ (tw a k (kX T (X 0) u.1) T)))) := hD.same rfl
    refine lv_iload_n hz.1 hz.2.1 dX5_read_27 rfl (lv_at hl 0 rfl) ?_
    exact wr_iret hz hr hlk dX5_read_28 hS ((⟨u.1, ⟨u.2.1, u.2.2⟩, ⟨nset (nset (nset (nset (nset F 0 (u.2.1 0)) 1 (u.2.1 1)) 2 (u.2.1 2)) 3 (u.2.1 3)) 4 (u.2.1 4), gset (gset (gset (gset (gset (gset (gset E 0 (ccpy (E 0) (u.2.2 0) 8)) 1 (ccpy (E 1) (u.2.2 1) 8)) 2 (ccpy (E 2) (u.2.2 2) 6)) 3 (ccpy (E 3) (u.2.2 3) 6)) 4 (ccpy (E 4) (u.2.2 4) 8)) 5 (ccpy (E 5) (u.2.2 5) 8)) 6 (ccpy (E 6) (u.2.2 6) 8)⟩⟩ : Nat × ((Nat → Nat) × (Nat → Nat → Nat)) × ((Nat → Nat) × (Nat → Nat → Nat)))) hP (⟨rfl, hWd, hRd.copy hWd.wc hWd.pc⟩)

set_option maxHeartbeats 4000000 in
set_option maxRecDepth 100000 in
theorem c5_read_bad (l_ : Launch) (D : va_G) (k : Nat → ClassId) (a : Nat → Nat) (tS : Nat) (sk sv : Nat → Nat) (C : Nat → Nat) (F : Nat → Nat) (E : Nat → Nat → Nat) (Fd : Nat → Nat) (Ed : Nat → Nat → Nat) (X : Nat → Nat) (T : Nat → Nat) (M : Nat → Nat) (N0 : Nat → Nat) (hR : Rb M F E) (hf : Wf M) (hL : X 0 ≤ 200) (hT : ∀ j, T j < 256) (hb : (sRd T (X 0) N0).1 = false) : Met l_ yX5_read wsX5_read ({ frames := 7, cells := 0, slots := 0, locals := 152 }) (va_Pc [.ref (a 0)] (wH (Am tS sk sv) D k (ho a C ++ (bw a 1 k F E ++ (bw a 9 k Fd Ed ++ (tw a k X T)))))) (va_Qi (fun (r : Int32) (u : Nat × ((Nat → Nat) × (Nat → Nat → Nat)) × ((Nat → Nat) × (Nat → Nat → Nat))) => r = (-10) - nI (sRd T (X 0) N0).2.1) (fun (u : Nat × ((Nat → Nat) × (Nat → Nat → Nat)) × ((Nat → Nat) × (Nat → Nat → Nat))) (t_ : State) => va_P D vwCl ((fun (u : Nat × ((Nat → Nat) × (Nat → Nat → Nat)) × ((Nat → Nat) × (Nat → Nat → Nat))) => ho a C ++ (bw a 1 k F E ++ (bw a 9 k u.2.1.1 u.2.1.2 ++ (tw a k (kX T (X 0) u.1) T)))) u) t_.heap) (wA (ho a C ++ (bw a 1 k F E ++ (bw a 9 k Fd Ed ++ (tw a k X T)))))) 0 0 (wA (ho a C ++ (bw a 1 k F E ++ (bw a 9 k Fd Ed ++ (tw a k X T))))) := by
  refine my_entry (cc := cX5_read) (maxL := 2) (ret := some .int) (by decide) rfl (Nat.le_of_ble_eq_true rfl) ?_
  intro p_ e_ s_ m_ bl_ me_ c_ hz hr hlk hB ls hl
  obtain ⟨hP, hK, hD0, hy⟩ := hB
  have hD := wA.self hD0
  have hS : va_S (wA (ho a C ++ (bw a 1 k F E ++ (bw a 9 k Fd Ed ++ (tw a k X T))))) s_.heap s_.heap [] := va_S.rf
  have hl : lv_has ls 2 [(0, .ref (a 0))] := hl
  have f0 := hf.n2
  have f1 := hf.n9
  have f2 := hf.fr
  have f3 := hf.gd
  have f4 := hf.pc
  have f5 := hf.wc
  have e0 : F 0 = M 0 := hR.1.1
  have e1 : F 1 = M 1 := hR.1.2.1
  have e2 : F 2 = M 2 := hR.1.2.2.1
  have e3 : F 3 = M 19 := hR.1.2.2.2.1
  have e4 : F 4 = M 32 := hR.1.2.2.2.2
  refine lv_aload_n hz.1 hz.2.1 dX5_read_0 rfl (lv_at hl 0 rfl) ?_
  refine rg (T := TX5) (N := 11) hz hinX5_read_X5 hK hP 0 rfl rfl 4 (by decide) (List.mem_of_getElem? (i := 1) rfl) rfl (v := .ref (a 35)) rfl dX5_read_1 ?_
  refine lv_aload_n hz.1 hz.2.1 dX5_read_4 rfl (lv_at hl 0 rfl) ?_
  refine rg (T := TX5) (N := 11) hz hinX5_read_X5 hK hP 0 rfl rfl 1 (by decide) (List.mem_of_getElem? (i := 2) rfl) rfl (v := .ref (a 9)) rfl dX5_read_5 ?_
  refine wrV (A := wA (ho a C ++ (bw a 1 k F E ++ (bw a 9 k Fd Ed ++ (tw a k X T))))) (As := [.ref (a 9)]) (rest := []) hz (okAm tS sk sv) (c1_readInto l_ D k a tS sk sv X T Fd Ed N0 hL hT) (cwV 1 hz.2.2.2.2 gX5_read_X1_readInto rfl rfl rfl (by decide +kernel) ⟨Nat.le_of_ble_eq_true rfl, Nat.le_of_ble_eq_true rfl⟩) hK hy (hP.sub (ws' := tw a k X T ++ (bw a 9 k Fd Ed)) [17, 18, 9, 10, 11, 12, 13, 14, 15, 16] rfl) (hD.sub (ws' := tw a k X T ++ (bw a 9 k Fd Ed)) [17, 18, 9, 10, 11, 12, 13, 14, 15, 16] (by decide) rfl) hS 0 1 rfl rfl rfl rfl hl.1 rfl (Nat.le_of_ble_eq_true rfl) dX5_read_8 ⟨Nat.zero_le _, Nat.zero_le _⟩ (fun r u H1 locs hp hP1 hS hfr => ?_)
  obtain ⟨hp1, hp2, hp3⟩ := hp
  obtain rfl := hp2 hb
  have hP1 : va_P D vwCl (tw a k (kX T (X 0) u.1) T ++ (bw a 9 k u.2.1 u.2.2)) H1 := hP1
  have hP : va_P D vwCl (ho a C ++ (bw a 1 k F E ++ (bw a 9 k u.2.1 u.2.2 ++ (tw a k (kX T (X 0) u.1) T)))) H1 := wJn (w1 := tw a k (kX T (X 0) u.1) T ++ (bw a 9 k u.2.1 u.2.2)) (wc := tw a k X T ++ (bw a 9 k Fd Ed)) hP hD [17, 18, 9, 10, 11, 12, 13, 14, 15, 16] rfl rfl hP1 hfr
  generalize H1 = H at hP hS ⊢
  have hD : va_D (wA (ho a C ++ (bw a 1 k F E ++ (bw a 9 k Fd Ed ++ (tw a k X T))))) (ho a C ++ (bw a 1 k F E ++ (bw a 9 k u.2.1 u.2.2 ++ (tw a k (kX T (X 0) u.1) T)))) := hD.same rfl
  refine lv_istore_n (lv' := [(1, .int ((-10) - nI (sRd T (X 0) N0).2.1)), (0, .ref (a 0))]) hz.1 hz.2.1 dX5_read_11 rfl hl (by decide) rfl (fun ls hl => ?_)
  refine lv_iload_n hz.1 hz.2.1 dX5_read_12 rfl (lv_at hl 0 rfl) ?_
  refine lv_if_lt (tgt := 27) hz.1 hz.2.1 dX5_read_13 (by decide) (fun c_13 => ?_) (fun c_13 => ?_)
  · refine lv_iload_n hz.1 hz.2.1 dX5_read_27 rfl (lv_at hl 0 rfl) ?_
    exact wr_iret hz hr hlk dX5_read_28 hS ((⟨u.1, ⟨u.2.1, u.2.2⟩, ⟨F, E⟩⟩ : Nat × ((Nat → Nat) × (Nat → Nat → Nat)) × ((Nat → Nat) × (Nat → Nat → Nat)))) hP (rfl)
  · exact absurd (neg10 (by omega)) c_13
