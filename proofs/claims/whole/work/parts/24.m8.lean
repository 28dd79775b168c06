theorem hinX6_readsItem : ∀ w ∈ wsX60, w ∈ wsX6_readsItem := fun _ h => List.mem_cons_of_mem _ (List.mem_append_right _ h)
set_option maxHeartbeats 4000000 in
set_option maxRecDepth 100000 in
theorem c6_readsItem (l_ : Launch) (D : va_G) (k : Nat → ClassId) (b I J : Nat → Nat) (G : Nat → Nat → Nat) (p : Nat) (hL : I 0 ≤ 200) (hp : p ≤ I 0) (hT : ∀ j, G 9 j < 256) (hN : Wf (G 10)) : Met l_ yX6_readsItem wsX6_readsItem ({ frames := 6, cells := 0, slots := 0, locals := 132 }) (va_Pc [.ref (b 0)] (wH YT D k (mw b k (nset (nset (nset (nset I 1 p) 2 (sEd (G 9) (I 0) p - p)) 3 (sKd (G 9) (I 0) p)) 4 (sVl (G 9) (I 0) p)) J G))) (va_Qi (fun (r : Int32) (u : (Nat → Nat) × (Nat → Nat)) => r = bI (sIt (G 9) (I 0) p (G 10)).1 ∧ ((sIt (G 9) (I 0) p (G 10)).1 = true → u.1 = (sIt (G 9) (I 0) p (G 10)).2.2)) (fun (u : (Nat → Nat) × (Nat → Nat)) (t_ : State) => va_P D vwCl ((fun (u : (Nat → Nat) × (Nat → Nat)) => mw b k (nset (nset (nset (nset I 1 ((sIt (G 9) (I 0) p (G 10)).2.1)) 2 (sEd (G 9) (I 0) ((sIt (G 9) (I 0) p (G 10)).2.1) - ((sIt (G 9) (I 0) p (G 10)).2.1))) 3 (sKd (G 9) (I 0) ((sIt (G 9) (I 0) p (G 10)).2.1))) 4 (sVl (G 9) (I 0) ((sIt (G 9) (I 0) p (G 10)).2.1))) J (gset (gset G 10 u.1) 11 u.2)) u) t_.heap) (wA (mw b k (nset (nset (nset (nset I 1 p) 2 (sEd (G 9) (I 0) p - p)) 3 (sKd (G 9) (I 0) p)) 4 (sVl (G 9) (I 0) p)) J G))) 0 0 (wA (mw b k (nset (nset (nset (nset I 1 p) 2 (sEd (G 9) (I 0) p - p)) 3 (sKd (G 9) (I 0) p)) 4 (sVl (G 9) (I 0) p)) J G)) := by
  refine my_entry (cc := cX6_readsItem) (maxL := 2) (ret := some .boolean) (by decide) rfl (Nat.le_of_ble_eq_true rfl) ?_
  intro p_ e_ s_ m_ bl_ me_ c_ hz hr hlk hB ls hl
  obtain ⟨hP, hK, hD0, -⟩ := hB
  have hD := wA.self hD0
  have hS : va_S (wA (mw b k (nset (nset (nset (nset I 1 p) 2 (sEd (G 9) (I 0) p - p)) 3 (sKd (G 9) (I 0) p)) 4 (sVl (G 9) (I 0) p)) J G)) s_.heap s_.heap [] := va_S.rf
  have hl : lv_has ls 2 [(0, .ref (b 0))] := hl
  have g2 := hN.n2
  have g9 := hN.n9
  have gd := hN.gd
  have gw := hN.wc
  have gp := hN.pc
  have m1 := sNx_in (T := G 9) hp
  have m2 := sNx_in (T := G 9) m1.2.1
  have m3 := sNx_in (T := G 9) m2.2.1
  have m4 := sNx_in (T := G 9) m3.2.1
  have w1 := sVl_lt (L := I 0) (p := sNx (G 9) (I 0) p) hT
  have w2 := sVl_lt (L := I 0) (p := sNx (G 9) (I 0) (sNx (G 9) (I 0) p)) hT
  have w3 := sVl_lt (L := I 0) (p := sNx (G 9) (I 0) (sNx (G 9) (I 0) (sNx (G 9) (I 0) p))) hT
  have kd1 := sKd_le (G 9) (I 0) (sNx (G 9) (I 0) p)
  refine lv_aload_n hz.1 hz.2.1 dX6_readsItem_0 rfl (lv_at hl 0 rfl) ?_
  refine lv_bipush (v := nI 119) hz.1 hz.2.1 dX6_readsItem_1 (by decide) ?_
  refine lv_bipush (v := nI 105) hz.1 hz.2.1 dX6_readsItem_3 (by decide) ?_
  refine lv_bipush (v := nI 114) hz.1 hz.2.1 dX6_readsItem_5 (by decide) ?_
  refine lv_bipush (v := nI 101) hz.1 hz.2.1 dX6_readsItem_7 (by decide) ?_
  refine lv_iconst (v := nI 0) hz.1 hz.2.1 dX6_readsItem_9 (by decide) ?_
  refine rdV (A := wA (mw b k (nset (nset (nset (nset I 1 p) 2 (sEd (G 9) (I 0) p - p)) 3 (sKd (G 9) (I 0) p)) 4 (sVl (G 9) (I 0) p)) J G)) (As := [.int (nI 119), .int (nI 105), .int (nI 114), .int (nI 101), .int (nI 0)]) (rest := []) hz okYT (c6_isWord4 l_ D k b I J G p 119 105 114 101 hL (by omega) hT (by omega) (by omega) (by omega) (by omega)) (cwV 5 hz.2.2.2.2 gX6_readsItem_X6_isWord rfl rfl rfl (by decide +kernel) ⟨Nat.le_of_ble_eq_true rfl, Nat.le_of_ble_eq_true rfl⟩) hK trivial hP hD hS 0 6 rfl rfl rfl rfl hl.1 rfl (Nat.le_of_ble_eq_true rfl) dX6_readsItem_10 ⟨Nat.zero_le _, Nat.zero_le _⟩ ?_
  refine zeq (tgt := 21) hz dX6_readsItem_13 (by decide) (fun c_13 => ?_) (fun c_13 => ?_)
  · refine lv_aload_n hz.1 hz.2.1 dX6_readsItem_21 rfl (lv_at hl 0 rfl) ?_
    refine lv_bipush (v := nI 102) hz.1 hz.2.1 dX6_readsItem_22 (by decide) ?_
    refine lv_bipush (v := nI 114) hz.1 hz.2.1 dX6_readsItem_24 (by decide) ?_
    refine lv_bipush (v := nI 111) hz.1 hz.2.1 dX6_readsItem_26 (by decide) ?_
    refine lv_bipush (v := nI 115) hz.1 hz.2.1 dX6_readsItem_28 (by decide) ?_
    refine lv_bipush (v := nI 116) hz.1 hz.2.1 dX6_readsItem_30 (by decide) ?_
    refine rdV (A := wA (mw b k (nset (nset (nset (nset I 1 p) 2 (sEd (G 9) (I 0) p - p)) 3 (sKd (G 9) (I 0) p)) 4 (sVl (G 9) (I 0) p)) J G)) (As := [.int (nI 102), .int (nI 114), .int (nI 111), .int (nI 115), .int (nI 116)]) (rest := []) hz okYT (c6_isWord5 l_ D k b I J G p 102 114 111 115 116 hL (by omega) hT (by omega) (by omega) (by omega) (by omega) (by omega) (by omega)) (cwV 5 hz.2.2.2.2 gX6_readsItem_X6_isWord rfl rfl rfl (by decide +kernel) ⟨Nat.le_of_ble_eq_true rfl, Nat.le_of_ble_eq_true rfl⟩) hK trivial hP hD hS 0 6 rfl rfl rfl rfl hl.1 rfl (Nat.le_of_ble_eq_true rfl) dX6_readsItem_32 ⟨Nat.zero_le _, Nat.zero_le _⟩ ?_
    refine zeq (tgt := 64) hz dX6_readsItem_35 (by decide) (fun c_35 => ?_) (fun c_35 => ?_)
    · refine lv_aload_n hz.1 hz.2.1 dX6_readsItem_64 rfl (lv_at hl 0 rfl) ?_
      refine lv_bipush (v := nI 103) hz.1 hz.2.1 dX6_readsItem_65 (by decide) ?_
      refine lv_bipush (v := nI 117) hz.1 hz.2.1 dX6_readsItem_67 (by decide) ?_
      refine lv_bipush (v := nI 97) hz.1 hz.2.1 dX6_readsItem_69 (by decide) ?_
      refine lv_bipush (v := nI 114) hz.1 hz.2.1 dX6_readsItem_71 (by decide) ?_
      refine lv_bipush (v := nI 100) hz.1 hz.2.1 dX6_readsItem_73 (by decide) ?_
      refine rdV (A := wA (mw b k (nset (nset (nset (nset I 1 p) 2 (sEd (G 9) (I 0) p - p)) 3 (sKd (G 9) (I 0) p)) 4 (sVl (G 9) (I 0) p)) J G)) (As := [.int (nI 103), .int (nI 117), .int (nI 97), .int (nI 114), .int (nI 100)]) (rest := []) hz okYT (c6_isWord5 l_ D k b I J G p 103 117 97 114 100 hL (by omega) hT (by omega) (by omega) (by omega) (by omega) (by omega) (by omega)) (cwV 5 hz.2.2.2.2 gX6_readsItem_X6_isWord rfl rfl rfl (by decide +kernel) ⟨Nat.le_of_ble_eq_true rfl, Nat.le_of_ble_eq_true rfl⟩) hK trivial hP hD hS 0 6 rfl rfl rfl rfl hl.1 rfl (Nat.le_of_ble_eq_true rfl) dX6_readsItem_75 ⟨Nat.zero_le _, Nat.zero_le _⟩ ?_
      refine zeq (tgt := 86) hz dX6_readsItem_78 (by decide) (fun c_78 => ?_) (fun c_78 => ?_)
      · refine lv_aload_n hz.1 hz.2.1 dX6_readsItem_86 rfl (lv_at hl 0 rfl) ?_
        refine lv_bipush (v := nI 119) hz.1 hz.2.1 dX6_readsItem_87 (by decide) ?_
        refine lv_bipush (v := nI 105) hz.1 hz.2.1 dX6_readsItem_89 (by decide) ?_
        refine lv_bipush (v := nI 110) hz.1 hz.2.1 dX6_readsItem_91 (by decide) ?_
        refine lv_bipush (v := nI 100) hz.1 hz.2.1 dX6_readsItem_93 (by decide) ?_
        refine lv_iconst (v := nI 0) hz.1 hz.2.1 dX6_readsItem_95 (by decide) ?_
        refine rdV (A := wA (mw b k (nset (nset (nset (nset I 1 p) 2 (sEd (G 9) (I 0) p - p)) 3 (sKd (G 9) (I 0) p)) 4 (sVl (G 9) (I 0) p)) J G)) (As := [.int (nI 119), .int (nI 105), .int (nI 110), .int (nI 100), .int (nI 0)]) (rest := []) hz okYT (c6_isWord4 l_ D k b I J G p 119 105 110 100 hL (by omega) hT (by omega) (by omega) (by omega) (by omega)) (cwV 5 hz.2.2.2.2 gX6_readsItem_X6_isWord rfl rfl rfl (by decide +kernel) ⟨Nat.le_of_ble_eq_true rfl, Nat.le_of_ble_eq_true rfl⟩) hK trivial hP hD hS 0 6 rfl rfl rfl rfl hl.1 rfl (Nat.le_of_ble_eq_true rfl) dX6_readsItem_96 ⟨Nat.zero_le _, Nat.zero_le _⟩ ?_
        refine zeq (tgt := 107) hz dX6_readsItem_99 (by decide) (fun c_99 => ?_) (fun c_99 => ?_)
        · refine lv_aload_n hz.1 hz.2.1 dX6_readsItem_107 rfl (lv_at hl 0 rfl) ?_
          refine lv_bipush (v := nI 112) hz.1 hz.2.1 dX6_readsItem_108 (by decide) ?_
          refine lv_bipush (v := nI 97) hz.1 hz.2.1 dX6_readsItem_110 (by decide) ?_
          refine lv_bipush (v := nI 115) hz.1 hz.2.1 dX6_readsItem_112 (by decide) ?_
          refine lv_bipush (v := nI 115) hz.1 hz.2.1 dX6_readsItem_114 (by decide) ?_
          refine lv_iconst (v := nI 0) hz.1 hz.2.1 dX6_readsItem_116 (by decide) ?_
          refine rdV (A := wA (mw b k (nset (nset (nset (nset I 1 p) 2 (sEd (G 9) (I 0) p - p)) 3 (sKd (G 9) (I 0) p)) 4 (sVl (G 9) (I 0) p)) J G)) (As := [.int (nI 112), .int (nI 97), .int (nI 115), .int (nI 115), .int (nI 0)]) (rest := []) hz okYT (c6_isWord4 l_ D k b I J G p 112 97 115 115 hL (by omega) hT (by omega) (by omega) (by omega) (by omega)) (cwV 5 hz.2.2.2.2 gX6_readsItem_X6_isWord rfl rfl rfl (by decide +kernel) ⟨Nat.le_of_ble_eq_true rfl, Nat.le_of_ble_eq_true rfl⟩) hK trivial hP hD hS 0 6 rfl rfl rfl rfl hl.1 rfl (Nat.le_of_ble_eq_true rfl) dX6_readsItem_117 ⟨Nat.zero_le _, Nat.zero_le _⟩ ?_
          refine zeq (tgt := 134) hz dX6_readsItem_120 (by decide) (fun c_120 => ?_) (fun c_120 => ?_)
          · refine lv_iconst (v := nI 0) hz.1 hz.2.1 dX6_readsItem_134 (by decide) ?_
            have eR : sIt (G 9) (I 0) p (G 10) = (false, p, G 10) := by rw [sIt, if_neg (by rw [c_13]; decide), if_neg (by rw [c_35]; decide), if_neg (by rw [c_78]; decide), if_neg (by rw [c_99]; decide), if_neg (by rw [c_120]; decide)]
            have hP : va_P D vwCl (mw b k (nset (nset (nset (nset I 1 ((sIt (G 9) (I 0) p (G 10)).2.1)) 2 (sEd (G 9) (I 0) ((sIt (G 9) (I 0) p (G 10)).2.1) - ((sIt (G 9) (I 0) p (G 10)).2.1))) 3 (sKd (G 9) (I 0) ((sIt (G 9) (I 0) p (G 10)).2.1))) 4 (sVl (G 9) (I 0) ((sIt (G 9) (I 0) p (G 10)).2.1))) J (gset (gset G 10 (G 10)) 11 (G 11))) s_.heap := by rw [eR]; exact hP
            exact wr_zret hz hr hlk dX6_readsItem_135 hS (show nI 0 = bI false from rfl) ((G 10, G 11)) hP (⟨by rw [eR], fun q => by rw [eR] at q; cases q⟩)
          · refine lv_aload_n hz.1 hz.2.1 dX6_readsItem_123 rfl (lv_at hl 0 rfl) ?_
            refine wrV (A := wA (mw b k (nset (nset (nset (nset I 1 p) 2 (sEd (G 9) (I 0) p - p)) 3 (sKd (G 9) (I 0) p)) 4 (sVl (G 9) (I 0) p)) J G)) (As := []) (rest := []) hz okYT (c6_readsPass l_ D k b I J G p  hL (by omega) hT hN) (cwV 0 hz.2.2.2.2 gX6_readsItem_X6_readsPass rfl rfl rfl (by decide +kernel) ⟨Nat.le_of_ble_eq_true rfl, Nat.le_of_ble_eq_true rfl⟩) hK trivial hP hD hS 0 6 rfl rfl rfl rfl hl.1 rfl (Nat.le_of_ble_eq_true rfl) dX6_readsItem_124 ⟨Nat.zero_le _, Nat.zero_le _⟩ (fun r u H locs hp hP hS _ => ?_)
            obtain ⟨N1, V1⟩ := u
            obtain ⟨hr1, hN1⟩ := hp
            obtain rfl : r = bI (sRP (G 9) (I 0) p (G 10)).1 := hr1
            have hN1 : (sRP (G 9) (I 0) p (G 10)).1 = true → N1 = (sRP (G 9) (I 0) p (G 10)).2.2 := hN1
            have hP : va_P D vwCl (mw b k (nset (nset (nset (nset I 1 ((sRP (G 9) (I 0) p (G 10)).2.1)) 2 (sEd (G 9) (I 0) ((sRP (G 9) (I 0) p (G 10)).2.1) - ((sRP (G 9) (I 0) p (G 10)).2.1))) 3 (sKd (G 9) (I 0) ((sRP (G 9) (I 0) p (G 10)).2.1))) 4 (sVl (G 9) (I 0) ((sRP (G 9) (I 0) p (G 10)).2.1))) J (gset (gset G 10 N1) 11 V1)) H := hP
            have hD := mw_D (I' := nset (nset (nset (nset I 1 ((sRP (G 9) (I 0) p (G 10)).2.1)) 2 (sEd (G 9) (I 0) ((sRP (G 9) (I 0) p (G 10)).2.1) - ((sRP (G 9) (I 0) p (G 10)).2.1))) 3 (sKd (G 9) (I 0) ((sRP (G 9) (I 0) p (G 10)).2.1))) 4 (sVl (G 9) (I 0) ((sRP (G 9) (I 0) p (G 10)).2.1))) (J' := J) (G' := gset (gset G 10 N1) 11 V1) hD
            refine zeq (tgt := 134) hz dX6_readsItem_127 (by decide) (fun c_127 => ?_) (fun c_127 => ?_)
            · refine lv_iconst (v := nI 0) hz.1 hz.2.1 dX6_readsItem_134 (by decide) ?_
              have eR : sIt (G 9) (I 0) p (G 10) = sRP (G 9) (I 0) p (G 10) := by rw [sIt, if_neg (by rw [c_13]; decide), if_neg (by rw [c_35]; decide), if_neg (by rw [c_78]; decide), if_neg (by rw [c_99]; decide), if_pos c_120]
              have hP : va_P D vwCl (mw b k (nset (nset (nset (nset I 1 ((sIt (G 9) (I 0) p (G 10)).2.1)) 2 (sEd (G 9) (I 0) ((sIt (G 9) (I 0) p (G 10)).2.1) - ((sIt (G 9) (I 0) p (G 10)).2.1))) 3 (sKd (G 9) (I 0) ((sIt (G 9) (I 0) p (G 10)).2.1))) 4 (sVl (G 9) (I 0) ((sIt (G 9) (I 0) p (G 10)).2.1))) J (gset (gset G 10 N1) 11 V1)) H := by rw [eR]; exact hP
              exact wr_zret hz hr hlk dX6_readsItem_135 hS (show nI 0 = bI false from rfl) ((N1, V1)) hP (⟨by rw [eR, c_127], fun q => by rw [eR, c_127] at q; cases q⟩)
            · refine lv_iconst (v := nI 1) hz.1 hz.2.1 dX6_readsItem_130 (by decide) ?_
              refine lv_goto (tgt := 135) hz.1 hz.2.1 dX6_readsItem_131 (by decide) ?_
              have eR : sIt (G 9) (I 0) p (G 10) = sRP (G 9) (I 0) p (G 10) := by rw [sIt, if_neg (by rw [c_13]; decide), if_neg (by rw [c_35]; decide), if_neg (by rw [c_78]; decide), if_neg (by rw [c_99]; decide), if_pos c_120]
              have hP : va_P D vwCl (mw b k (nset (nset (nset (nset I 1 ((sIt (G 9) (I 0) p (G 10)).2.1)) 2 (sEd (G 9) (I 0) ((sIt (G 9) (I 0) p (G 10)).2.1) - ((sIt (G 9) (I 0) p (G 10)).2.1))) 3 (sKd (G 9) (I 0) ((sIt (G 9) (I 0) p (G 10)).2.1))) 4 (sVl (G 9) (I 0) ((sIt (G 9) (I 0) p (G 10)).2.1))) J (gset (gset G 10 N1) 11 V1)) H := by rw [eR]; exact hP
              exact wr_zret hz hr hlk dX6_readsItem_135 hS (show nI 1 = bI true from rfl) ((N1, V1)) hP (⟨by rw [eR, c_127], fun q => by rw [eR] at q ⊢; exact hN1 q⟩)
        · refine lv_aload_n hz.1 hz.2.1 dX6_readsItem_102 rfl (lv_at hl 0 rfl) ?_
          refine wrV (A := wA (mw b k (nset (nset (nset (nset I 1 p) 2 (sEd (G 9) (I 0) p - p)) 3 (sKd (G 9) (I 0) p)) 4 (sVl (G 9) (I 0) p)) J G)) (As := []) (rest := []) hz okYT (c6_readsWind l_ D k b I J G p  hL (by omega) hT hN) (cwV 0 hz.2.2.2.2 gX6_readsItem_X6_readsWind rfl rfl rfl (by decide +kernel) ⟨Nat.le_of_ble_eq_true rfl, Nat.le_of_ble_eq_true rfl⟩) hK trivial hP hD hS 0 6 rfl rfl rfl rfl hl.1 rfl (Nat.le_of_ble_eq_true rfl) dX6_readsItem_103 ⟨Nat.zero_le _, Nat.zero_le _⟩ (fun r u H locs hp hP hS _ => ?_)
          obtain ⟨N1, V1⟩ := u
          obtain ⟨hr1, hN1⟩ := hp
          obtain rfl : r = bI (sRD (G 9) (I 0) p (G 10)).1 := hr1
          have hN1 : (sRD (G 9) (I 0) p (G 10)).1 = true → N1 = (sRD (G 9) (I 0) p (G 10)).2.2 := hN1
          have hP : va_P D vwCl (mw b k (nset (nset (nset (nset I 1 ((sRD (G 9) (I 0) p (G 10)).2.1)) 2 (sEd (G 9) (I 0) ((sRD (G 9) (I 0) p (G 10)).2.1) - ((sRD (G 9) (I 0) p (G 10)).2.1))) 3 (sKd (G 9) (I 0) ((sRD (G 9) (I 0) p (G 10)).2.1))) 4 (sVl (G 9) (I 0) ((sRD (G 9) (I 0) p (G 10)).2.1))) J (gset (gset G 10 N1) 11 V1)) H := hP
          have hD := mw_D (I' := nset (nset (nset (nset I 1 ((sRD (G 9) (I 0) p (G 10)).2.1)) 2 (sEd (G 9) (I 0) ((sRD (G 9) (I 0) p (G 10)).2.1) - ((sRD (G 9) (I 0) p (G 10)).2.1))) 3 (sKd (G 9) (I 0) ((sRD (G 9) (I 0) p (G 10)).2.1))) 4 (sVl (G 9) (I 0) ((sRD (G 9) (I 0) p (G 10)).2.1))) (J' := J) (G' := gset (gset G 10 N1) 11 V1) hD
          have eR : sIt (G 9) (I 0) p (G 10) = sRD (G 9) (I 0) p (G 10) := by rw [sIt, if_neg (by rw [c_13]; decide), if_neg (by rw [c_35]; decide), if_neg (by rw [c_78]; decide), if_pos c_99]
          have hP : va_P D vwCl (mw b k (nset (nset (nset (nset I 1 ((sIt (G 9) (I 0) p (G 10)).2.1)) 2 (sEd (G 9) (I 0) ((sIt (G 9) (I 0) p (G 10)).2.1) - ((sIt (G 9) (I 0) p (G 10)).2.1))) 3 (sKd (G 9) (I 0) ((sIt (G 9) (I 0) p (G 10)).2.1))) 4 (sVl (G 9) (I 0) ((sIt (G 9) (I 0) p (G 10)).2.1))) J (gset (gset G 10 N1) 11 V1)) H := by rw [eR]; exact hP
          exact wr_zret hz hr hlk dX6_readsItem_106 hS (rfl) ((N1, V1)) hP (⟨by rw [eR], fun q => by rw [eR] at q ⊢; exact hN1 q⟩)
      · refine lv_aload_n hz.1 hz.2.1 dX6_readsItem_81 rfl (lv_at hl 0 rfl) ?_
        refine wrV (A := wA (mw b k (nset (nset (nset (nset I 1 p) 2 (sEd (G 9) (I 0) p - p)) 3 (sKd (G 9) (I 0) p)) 4 (sVl (G 9) (I 0) p)) J G)) (As := []) (rest := []) hz okYT (c6_readsGuard l_ D k b I J G p  hL (by omega) hT hN) (cwV 0 hz.2.2.2.2 gX6_readsItem_X6_readsGuard rfl rfl rfl (by decide +kernel) ⟨Nat.le_of_ble_eq_true rfl, Nat.le_of_ble_eq_true rfl⟩) hK trivial hP hD hS 0 6 rfl rfl rfl rfl hl.1 rfl (Nat.le_of_ble_eq_true rfl) dX6_readsItem_82 ⟨Nat.zero_le _, Nat.zero_le _⟩ (fun r u H locs hp hP hS _ => ?_)
        obtain ⟨N1, V1⟩ := u
        obtain ⟨hr1, hN1⟩ := hp
        obtain rfl : r = bI (sRG (G 9) (I 0) p (G 10)).1 := hr1
        have hN1 : (sRG (G 9) (I 0) p (G 10)).1 = true → N1 = (sRG (G 9) (I 0) p (G 10)).2.2 := hN1
        have hP : va_P D vwCl (mw b k (nset (nset (nset (nset I 1 ((sRG (G 9) (I 0) p (G 10)).2.1)) 2 (sEd (G 9) (I 0) ((sRG (G 9) (I 0) p (G 10)).2.1) - ((sRG (G 9) (I 0) p (G 10)).2.1))) 3 (sKd (G 9) (I 0) ((sRG (G 9) (I 0) p (G 10)).2.1))) 4 (sVl (G 9) (I 0) ((sRG (G 9) (I 0) p (G 10)).2.1))) J (gset (gset G 10 N1) 11 V1)) H := hP
        have hD := mw_D (I' := nset (nset (nset (nset I 1 ((sRG (G 9) (I 0) p (G 10)).2.1)) 2 (sEd (G 9) (I 0) ((sRG (G 9) (I 0) p (G 10)).2.1) - ((sRG (G 9) (I 0) p (G 10)).2.1))) 3 (sKd (G 9) (I 0) ((sRG (G 9) (I 0) p (G 10)).2.1))) 4 (sVl (G 9) (I 0) ((sRG (G 9) (I 0) p (G 10)).2.1))) (J' := J) (G' := gset (gset G 10 N1) 11 V1) hD
        have eR : sIt (G 9) (I 0) p (G 10) = sRG (G 9) (I 0) p (G 10) := by rw [sIt, if_neg (by rw [c_13]; decide), if_neg (by rw [c_35]; decide), if_pos c_78]
        have hP : va_P D vwCl (mw b k (nset (nset (nset (nset I 1 ((sIt (G 9) (I 0) p (G 10)).2.1)) 2 (sEd (G 9) (I 0) ((sIt (G 9) (I 0) p (G 10)).2.1) - ((sIt (G 9) (I 0) p (G 10)).2.1))) 3 (sKd (G 9) (I 0) ((sIt (G 9) (I 0) p (G 10)).2.1))) 4 (sVl (G 9) (I 0) ((sIt (G 9) (I 0) p (G 10)).2.1))) J (gset (gset G 10 N1) 11 V1)) H := by rw [eR]; exact hP
        exact wr_zret hz hr hlk dX6_readsItem_85 hS (rfl) ((N1, V1)) hP (⟨by rw [eR], fun q => by rw [eR] at q ⊢; exact hN1 q⟩)
    · refine lv_aload_n hz.1 hz.2.1 dX6_readsItem_38 rfl (lv_at hl 0 rfl) ?_
      refine wrVv (A := wA (mw b k (nset (nset (nset (nset I 1 p) 2 (sEd (G 9) (I 0) p - p)) 3 (sKd (G 9) (I 0) p)) 4 (sVl (G 9) (I 0) p)) J G)) (As := []) (rest := []) hz okYT (c6_goOn l_ D k b I J G p  hL (by omega) hT) (cwV 0 hz.2.2.2.2 gX6_readsItem_X6_goOn rfl rfl rfl (by decide +kernel) ⟨Nat.le_of_ble_eq_true rfl, Nat.le_of_ble_eq_true rfl⟩) hK trivial hP hD hS 0 6 rfl rfl rfl rfl hl.1 rfl (Nat.le_of_ble_eq_true rfl) dX6_readsItem_39 ⟨Nat.zero_le _, Nat.zero_le _⟩ (fun u H locs hp hP hS _ => ?_)
      have hP : va_P D vwCl (mw b k (nset (nset (nset (nset I 1 (sNx (G 9) (I 0) p)) 2 (sEd (G 9) (I 0) (sNx (G 9) (I 0) p) - (sNx (G 9) (I 0) p))) 3 (sKd (G 9) (I 0) (sNx (G 9) (I 0) p))) 4 (sVl (G 9) (I 0) (sNx (G 9) (I 0) p))) J G) H := hP
      have hD := mw_D (I' := nset (nset (nset (nset I 1 (sNx (G 9) (I 0) p)) 2 (sEd (G 9) (I 0) (sNx (G 9) (I 0) p) - (sNx (G 9) (I 0) p))) 3 (sKd (G 9) (I 0) (sNx (G 9) (I 0) p))) 4 (sVl (G 9) (I 0) (sNx (G 9) (I 0) p))) (J' := J) (G' := G) hD
      refine lv_aload_n hz.1 hz.2.1 dX6_readsItem_42 rfl (lv_at hl 0 rfl) ?_
      refine lv_iconst (v := nI 0) hz.1 hz.2.1 dX6_readsItem_43 (by decide) ?_
      refine lv_iconst (v := nI 0) hz.1 hz.2.1 dX6_readsItem_44 (by decide) ?_
      refine lv_iconst (v := nI 5) hz.1 hz.2.1 dX6_readsItem_45 (by decide) ?_
      by_cases hc_46 : sNum (G 9) (I 0) (sNx (G 9) (I 0) p) 0 5
      · refine wrV (A := wA (mw b k (nset (nset (nset (nset I 1 p) 2 (sEd (G 9) (I 0) p - p)) 3 (sKd (G 9) (I 0) p)) 4 (sVl (G 9) (I 0) p)) J G)) (As := [.int (nI 0), .int (nI 0), .int (nI 5)]) (rest := []) hz okYT (c6_takes_yes l_ D k b I J G (sNx (G 9) (I 0) p) 0 0 5 hL (by omega) hT (by omega) (by omega) hc_46) (cwV 3 hz.2.2.2.2 gX6_readsItem_X6_takes rfl rfl rfl (by decide +kernel) ⟨Nat.le_of_ble_eq_true rfl, Nat.le_of_ble_eq_true rfl⟩) hK trivial hP hD hS 0 6 rfl rfl rfl rfl hl.1 rfl (Nat.le_of_ble_eq_true rfl) dX6_readsItem_46 ⟨Nat.zero_le _, Nat.zero_le _⟩ (fun r u H locs hp hP hS _ => ?_)
        obtain rfl : r = bI true := hp
        have hP : va_P D vwCl (mw b k (nset (nset (nset (nset I 1 (sNx (G 9) (I 0) (sNx (G 9) (I 0) p))) 2 (sEd (G 9) (I 0) (sNx (G 9) (I 0) (sNx (G 9) (I 0) p)) - (sNx (G 9) (I 0) (sNx (G 9) (I 0) p)))) 3 (sKd (G 9) (I 0) (sNx (G 9) (I 0) (sNx (G 9) (I 0) p)))) 4 (sVl (G 9) (I 0) (sNx (G 9) (I 0) (sNx (G 9) (I 0) p)))) J (gset G 11 (nset (G 11) 0 (sVl (G 9) (I 0) (sNx (G 9) (I 0) p))))) H := hP
        have hD := mw_D (I' := nset (nset (nset (nset I 1 (sNx (G 9) (I 0) (sNx (G 9) (I 0) p))) 2 (sEd (G 9) (I 0) (sNx (G 9) (I 0) (sNx (G 9) (I 0) p)) - (sNx (G 9) (I 0) (sNx (G 9) (I 0) p)))) 3 (sKd (G 9) (I 0) (sNx (G 9) (I 0) (sNx (G 9) (I 0) p)))) 4 (sVl (G 9) (I 0) (sNx (G 9) (I 0) (sNx (G 9) (I 0) p)))) (J' := J) (G' := gset G 11 (nset (G 11) 0 (sVl (G 9) (I 0) (sNx (G 9) (I 0) p)))) hD
        refine lv_istore_n (lv' := [(1, .int (bI true)), (0, .ref (b 0))]) hz.1 hz.2.1 dX6_readsItem_49 rfl hl (by decide) rfl (fun ls hl => ?_)
        refine lv_aload_n hz.1 hz.2.1 dX6_readsItem_50 rfl (lv_at hl 1 rfl) ?_
        refine rg hz hinX6_readsItem hK hP 0 rfl rfl 17 (by decide) (List.mem_of_getElem? (i := 1) rfl) rfl (v := .ref (b 11)) rfl dX6_readsItem_51 ?_
        refine lv_iconst (v := nI 1) hz.1 hz.2.1 dX6_readsItem_54 (by decide) ?_
        refine lv_aload_n hz.1 hz.2.1 dX6_readsItem_55 rfl (lv_at hl 1 rfl) ?_
        refine rg hz hinX6_readsItem hK hP 0 rfl rfl 18 (by decide) (List.mem_of_getElem? (i := 2) rfl) rfl (v := .ref (b 12)) rfl dX6_readsItem_56 ?_
        refine lv_iconst (v := nI 0) hz.1 hz.2.1 dX6_readsItem_59 (by decide) ?_
        refine rald hz hK hP 12 0 rfl rfl (i := 0) (by omega) (by decide) (v := nI ((nset (G 11) 0 (sVl (G 9) (I 0) (sNx (G 9) (I 0) p))) 0)) rfl dX6_readsItem_60 ?_
        refine rast hz hK hP hD hS 11 0 rfl rfl (i := 1) (v := ((nset (G 11) 0 (sVl (G 9) (I 0) (sNx (G 9) (I 0) p))) 0)) (by omega) (by decide) dX6_readsItem_61 (fun H locs hP hS => ?_)
        have hP : va_P D vwCl (mw b k (nset (nset (nset (nset I 1 (sNx (G 9) (I 0) (sNx (G 9) (I 0) p))) 2 (sEd (G 9) (I 0) (sNx (G 9) (I 0) (sNx (G 9) (I 0) p)) - (sNx (G 9) (I 0) (sNx (G 9) (I 0) p)))) 3 (sKd (G 9) (I 0) (sNx (G 9) (I 0) (sNx (G 9) (I 0) p)))) 4 (sVl (G 9) (I 0) (sNx (G 9) (I 0) (sNx (G 9) (I 0) p)))) J (gset (gset G 10 (nset (G 10) 1 ((nset (G 11) 0 (sVl (G 9) (I 0) (sNx (G 9) (I 0) p))) 0))) 11 (nset (G 11) 0 (sVl (G 9) (I 0) (sNx (G 9) (I 0) p))))) H := hP
        have hD := mw_D (I' := nset (nset (nset (nset I 1 (sNx (G 9) (I 0) (sNx (G 9) (I 0) p))) 2 (sEd (G 9) (I 0) (sNx (G 9) (I 0) (sNx (G 9) (I 0) p)) - (sNx (G 9) (I 0) (sNx (G 9) (I 0) p)))) 3 (sKd (G 9) (I 0) (sNx (G 9) (I 0) (sNx (G 9) (I 0) p)))) 4 (sVl (G 9) (I 0) (sNx (G 9) (I 0) (sNx (G 9) (I 0) p)))) (J' := J) (G' := gset (gset G 10 (nset (G 10) 1 ((nset (G 11) 0 (sVl (G 9) (I 0) (sNx (G 9) (I 0) p))) 0))) 11 (nset (G 11) 0 (sVl (G 9) (I 0) (sNx (G 9) (I 0) p)))) hD
        refine lv_iload_n hz.1 hz.2.1 dX6_readsItem_62 rfl (lv_at hl 0 rfl) ?_
        have eR : sIt (G 9) (I 0) p (G 10) = (true, sNx (G 9) (I 0) (sNx (G 9) (I 0) p), nset (G 10) 1 (sVl (G 9) (I 0) (sNx (G 9) (I 0) p))) := by rw [sIt, if_neg (by rw [c_13]; decide), if_pos c_35, sRF, if_pos hc_46]
        have hP : va_P D vwCl (mw b k (nset (nset (nset (nset I 1 ((sIt (G 9) (I 0) p (G 10)).2.1)) 2 (sEd (G 9) (I 0) ((sIt (G 9) (I 0) p (G 10)).2.1) - ((sIt (G 9) (I 0) p (G 10)).2.1))) 3 (sKd (G 9) (I 0) ((sIt (G 9) (I 0) p (G 10)).2.1))) 4 (sVl (G 9) (I 0) ((sIt (G 9) (I 0) p (G 10)).2.1))) J (gset (gset G 10 (nset (G 10) 1 ((nset (G 11) 0 (sVl (G 9) (I 0) (sNx (G 9) (I 0) p))) 0))) 11 (nset (G 11) 0 (sVl (G 9) (I 0) (sNx (G 9) (I 0) p))))) H := by rw [eR]; exact hP
        exact wr_zret hz hr hlk dX6_readsItem_63 hS (rfl) ((nset (G 10) 1 ((nset (G 11) 0 (sVl (G 9) (I 0) (sNx (G 9) (I 0) p))) 0), nset (G 11) 0 (sVl (G 9) (I 0) (sNx (G 9) (I 0) p)))) hP (⟨by rw [eR], fun _ => by first | (rw [eR]; done) | (rw [eR]; rfl)⟩)
      · refine rdV (A := wA (mw b k (nset (nset (nset (nset I 1 p) 2 (sEd (G 9) (I 0) p - p)) 3 (sKd (G 9) (I 0) p)) 4 (sVl (G 9) (I 0) p)) J G)) (As := [.int (nI 0), .int (nI 0), .int (nI 5)]) (rest := []) hz okYT (c6_takes_no l_ D k b I J G (sNx (G 9) (I 0) p) 0 0 5 hL (by omega) hT (by omega) (by omega) (by omega) hc_46) (cwV 3 hz.2.2.2.2 gX6_readsItem_X6_takes rfl rfl rfl (by decide +kernel) ⟨Nat.le_of_ble_eq_true rfl, Nat.le_of_ble_eq_true rfl⟩) hK trivial hP hD hS 0 6 rfl rfl rfl rfl hl.1 rfl (Nat.le_of_ble_eq_true rfl) dX6_readsItem_46 ⟨Nat.zero_le _, Nat.zero_le _⟩ ?_
        refine lv_istore_n (lv' := [(1, .int (bI false)), (0, .ref (b 0))]) hz.1 hz.2.1 dX6_readsItem_49 rfl hl (by decide) rfl (fun ls hl => ?_)
        refine lv_aload_n hz.1 hz.2.1 dX6_readsItem_50 rfl (lv_at hl 1 rfl) ?_
        refine rg hz hinX6_readsItem hK hP 0 rfl rfl 17 (by decide) (List.mem_of_getElem? (i := 1) rfl) rfl (v := .ref (b 11)) rfl dX6_readsItem_51 ?_
        refine lv_iconst (v := nI 1) hz.1 hz.2.1 dX6_readsItem_54 (by decide) ?_
        refine lv_aload_n hz.1 hz.2.1 dX6_readsItem_55 rfl (lv_at hl 1 rfl) ?_
        refine rg hz hinX6_readsItem hK hP 0 rfl rfl 18 (by decide) (List.mem_of_getElem? (i := 2) rfl) rfl (v := .ref (b 12)) rfl dX6_readsItem_56 ?_
        refine lv_iconst (v := nI 0) hz.1 hz.2.1 dX6_readsItem_59 (by decide) ?_
        refine rald hz hK hP 12 0 rfl rfl (i := 0) (by omega) (by decide) (v := nI (G 11 0)) rfl dX6_readsItem_60 ?_
        refine rast hz hK hP hD hS 11 0 rfl rfl (i := 1) (v := (G 11 0)) (by omega) (by decide) dX6_readsItem_61 (fun H locs hP hS => ?_)
        have hP : va_P D vwCl (mw b k (nset (nset (nset (nset I 1 (sNx (G 9) (I 0) p)) 2 (sEd (G 9) (I 0) (sNx (G 9) (I 0) p) - (sNx (G 9) (I 0) p))) 3 (sKd (G 9) (I 0) (sNx (G 9) (I 0) p))) 4 (sVl (G 9) (I 0) (sNx (G 9) (I 0) p))) J (gset G 10 (nset (G 10) 1 (G 11 0)))) H := hP
        have hD := mw_D (I' := nset (nset (nset (nset I 1 (sNx (G 9) (I 0) p)) 2 (sEd (G 9) (I 0) (sNx (G 9) (I 0) p) - (sNx (G 9) (I 0) p))) 3 (sKd (G 9) (I 0) (sNx (G 9) (I 0) p))) 4 (sVl (G 9) (I 0) (sNx (G 9) (I 0) p))) (J' := J) (G' := gset G 10 (nset (G 10) 1 (G 11 0))) hD
        refine lv_iload_n hz.1 hz.2.1 dX6_readsItem_62 rfl (lv_at hl 0 rfl) ?_
        have eR : sIt (G 9) (I 0) p (G 10) = (false, sNx (G 9) (I 0) p, G 10) := by rw [sIt, if_neg (by rw [c_13]; decide), if_pos c_35, sRF, if_neg hc_46]
        have hP : va_P D vwCl (mw b k (nset (nset (nset (nset I 1 ((sIt (G 9) (I 0) p (G 10)).2.1)) 2 (sEd (G 9) (I 0) ((sIt (G 9) (I 0) p (G 10)).2.1) - ((sIt (G 9) (I 0) p (G 10)).2.1))) 3 (sKd (G 9) (I 0) ((sIt (G 9) (I 0) p (G 10)).2.1))) 4 (sVl (G 9) (I 0) ((sIt (G 9) (I 0) p (G 10)).2.1))) J (gset (gset G 10 (nset (G 10) 1 (G 11 0))) 11 (G 11))) H := by rw [eR]; exact hP
        exact wr_zret hz hr hlk dX6_readsItem_63 hS (rfl) ((nset (G 10) 1 (G 11 0), G 11)) hP (⟨by rw [eR], fun q => by rw [eR] at q; cases q⟩)
  · refine lv_aload_n hz.1 hz.2.1 dX6_readsItem_16 rfl (lv_at hl 0 rfl) ?_
    refine wrV (A := wA (mw b k (nset (nset (nset (nset I 1 p) 2 (sEd (G 9) (I 0) p - p)) 3 (sKd (G 9) (I 0) p)) 4 (sVl (G 9) (I 0) p)) J G)) (As := []) (rest := []) hz okYT (c6_readsWire l_ D k b I J G p  hL (by omega) hT hN) (cwV 0 hz.2.2.2.2 gX6_readsItem_X6_readsWire rfl rfl rfl (by decide +kernel) ⟨Nat.le_of_ble_eq_true rfl, Nat.le_of_ble_eq_true rfl⟩) hK trivial hP hD hS 0 6 rfl rfl rfl rfl hl.1 rfl (Nat.le_of_ble_eq_true rfl) dX6_readsItem_17 ⟨Nat.zero_le _, Nat.zero_le _⟩ (fun r u H locs hp hP hS _ => ?_)
    obtain ⟨N1, V1⟩ := u
    obtain ⟨hr1, hN1⟩ := hp
    obtain rfl : r = bI (sRW (G 9) (I 0) p (G 10)).1 := hr1
    have hN1 : (sRW (G 9) (I 0) p (G 10)).1 = true → N1 = (sRW (G 9) (I 0) p (G 10)).2.2 := hN1
    have hP : va_P D vwCl (mw b k (nset (nset (nset (nset I 1 ((sRW (G 9) (I 0) p (G 10)).2.1)) 2 (sEd (G 9) (I 0) ((sRW (G 9) (I 0) p (G 10)).2.1) - ((sRW (G 9) (I 0) p (G 10)).2.1))) 3 (sKd (G 9) (I 0) ((sRW (G 9) (I 0) p (G 10)).2.1))) 4 (sVl (G 9) (I 0) ((sRW (G 9) (I 0) p (G 10)).2.1))) J (gset (gset G 10 N1) 11 V1)) H := hP
    have hD := mw_D (I' := nset (nset (nset (nset I 1 ((sRW (G 9) (I 0) p (G 10)).2.1)) 2 (sEd (G 9) (I 0) ((sRW (G 9) (I 0) p (G 10)).2.1) - ((sRW (G 9) (I 0) p (G 10)).2.1))) 3 (sKd (G 9) (I 0) ((sRW (G 9) (I 0) p (G 10)).2.1))) 4 (sVl (G 9) (I 0) ((sRW (G 9) (I 0) p (G 10)).2.1))) (J' := J) (G' := gset (gset G 10 N1) 11 V1) hD
    have eR : sIt (G 9) (I 0) p (G 10) = sRW (G 9) (I 0) p (G 10) := by rw [sIt, if_pos c_13]
    have hP : va_P D vwCl (mw b k (nset (nset (nset (nset I 1 ((sIt (G 9) (I 0) p (G 10)).2.1)) 2 (sEd (G 9) (I 0) ((sIt (G 9) (I 0) p (G 10)).2.1) - ((sIt (G 9) (I 0) p (G 10)).2.1))) 3 (sKd (G 9) (I 0) ((sIt (G 9) (I 0) p (G 10)).2.1))) 4 (sVl (G 9) (I 0) ((sIt (G 9) (I 0) p (G 10)).2.1))) J (gset (gset G 10 N1) 11 V1)) H := by rw [eR]; exact hP
    exact wr_zret hz hr hlk dX6_readsItem_20 hS (rfl) ((N1, V1)) hP (⟨by rw [eR], fun q => by rw [eR] at q ⊢; exact hN1 q⟩)

theorem hinX6_readsFirst : ∀ w ∈ wsX60, w ∈ wsX6_readsFirst := fun _ h => List.mem_cons_of_mem _ (List.mem_append_right _ h)
set_option maxHeartbeats 4000000 in
set_option maxRecDepth 100000 in
theorem c6_readsFirst (l_ : Launch) (D : va_G) (k : Nat → ClassId) (b I J : Nat → Nat) (G : Nat → Nat → Nat) (p : Nat) (hL : I 0 ≤ 200) (hp : p ≤ I 0) (hT : ∀ j, G 9 j < 256) : Met l_ yX6_readsFirst wsX6_readsFirst ({ frames := 5, cells := 0, slots := 0, locals := 112 }) (va_Pc [.ref (b 0)] (wH YT D k (mw b k (nset (nset (nset (nset I 1 p) 2 (sEd (G 9) (I 0) p - p)) 3 (sKd (G 9) (I 0) p)) 4 (sVl (G 9) (I 0) p)) J G))) (va_Qi (fun (r : Int32) (u : (Nat → Nat) × (Nat → Nat)) => r = bI (sR1 (G 9) (I 0) p).1 ∧ ((sR1 (G 9) (I 0) p).1 = true → u.1 = sBegin (G 10) (sR1 (G 9) (I 0) p).2.2)) (fun (u : (Nat → Nat) × (Nat → Nat)) (t_ : State) => va_P D vwCl ((fun (u : (Nat → Nat) × (Nat → Nat)) => mw b k (nset (nset (nset (nset I 1 ((sR1 (G 9) (I 0) p).2.1)) 2 (sEd (G 9) (I 0) ((sR1 (G 9) (I 0) p).2.1) - ((sR1 (G 9) (I 0) p).2.1))) 3 (sKd (G 9) (I 0) ((sR1 (G 9) (I 0) p).2.1))) 4 (sVl (G 9) (I 0) ((sR1 (G 9) (I 0) p).2.1))) J (gset (gset G 10 u.1) 11 u.2)) u) t_.heap) (wA (mw b k (nset (nset (nset (nset I 1 p) 2 (sEd (G 9) (I 0) p - p)) 3 (sKd (G 9) (I 0) p)) 4 (sVl (G 9) (I 0) p)) J G))) 0 0 (wA (mw b k (nset (nset (nset (nset I 1 p) 2 (sEd (G 9) (I 0) p - p)) 3 (sKd (G 9) (I 0) p)) 4 (sVl (G 9) (I 0) p)) J G)) := by
  refine my_entry (cc := cX6_readsFirst) (maxL := 2) (ret := some .boolean) (by decide) rfl (Nat.le_of_ble_eq_true rfl) ?_
  intro p_ e_ s_ m_ bl_ me_ c_ hz hr hlk hB ls hl
  obtain ⟨hP, hK, hD0, -⟩ := hB
  have hD := wA.self hD0
  have hS : va_S (wA (mw b k (nset (nset (nset (nset I 1 p) 2 (sEd (G 9) (I 0) p - p)) 3 (sKd (G 9) (I 0) p)) 4 (sVl (G 9) (I 0) p)) J G)) s_.heap s_.heap [] := va_S.rf
  have hl : lv_has ls 2 [(0, .ref (b 0))] := hl
  have m1 := sNx_in (T := G 9) hp
  have m2 := sNx_in (T := G 9) m1.2.1
  have m3 := sNx_in (T := G 9) m2.2.1
  have m4 := sNx_in (T := G 9) m3.2.1
  have w1 := sVl_lt (L := I 0) (p := sNx (G 9) (I 0) p) hT
  have w2 := sVl_lt (L := I 0) (p := sNx (G 9) (I 0) (sNx (G 9) (I 0) p)) hT
  have w3 := sVl_lt (L := I 0) (p := sNx (G 9) (I 0) (sNx (G 9) (I 0) (sNx (G 9) (I 0) p))) hT
  have kd1 := sKd_le (G 9) (I 0) (sNx (G 9) (I 0) p)
  have kd2 := sKd_le (G 9) (I 0) (sNx (G 9) (I 0) (sNx (G 9) (I 0) p))
  refine lv_aload_n hz.1 hz.2.1 dX6_readsFirst_0 rfl (lv_at hl 0 rfl) ?_
  refine lv_bipush (v := nI 112) hz.1 hz.2.1 dX6_readsFirst_1 (by decide) ?_
  refine lv_bipush (v := nI 111) hz.1 hz.2.1 dX6_readsFirst_3 (by decide) ?_
  refine lv_bipush (v := nI 115) hz.1 hz.2.1 dX6_readsFirst_5 (by decide) ?_
  refine lv_bipush (v := nI 116) hz.1 hz.2.1 dX6_readsFirst_7 (by decide) ?_
  refine lv_bipush (v := nI 115) hz.1 hz.2.1 dX6_readsFirst_9 (by decide) ?_
  refine rdV (A := wA (mw b k (nset (nset (nset (nset I 1 p) 2 (sEd (G 9) (I 0) p - p)) 3 (sKd (G 9) (I 0) p)) 4 (sVl (G 9) (I 0) p)) J G)) (As := [.int (nI 112), .int (nI 111), .int (nI 115), .int (nI 116), .int (nI 115)]) (rest := []) hz okYT (c6_isWord5 l_ D k b I J G p 112 111 115 116 115 hL (by omega) hT (by omega) (by omega) (by omega) (by omega) (by omega) (by omega)) (cwV 5 hz.2.2.2.2 gX6_readsFirst_X6_isWord rfl rfl rfl (by decide +kernel) ⟨Nat.le_of_ble_eq_true rfl, Nat.le_of_ble_eq_true rfl⟩) hK trivial hP hD hS 0 6 rfl rfl rfl rfl hl.1 rfl (Nat.le_of_ble_eq_true rfl) dX6_readsFirst_11 ⟨Nat.zero_le _, Nat.zero_le _⟩ ?_
  refine zne (tgt := 19) hz dX6_readsFirst_14 (by decide) (fun c_14 => ?_) (fun c_14 => ?_)
  · refine lv_aload_n hz.1 hz.2.1 dX6_readsFirst_19 rfl (lv_at hl 0 rfl) ?_
    refine wrVv (A := wA (mw b k (nset (nset (nset (nset I 1 p) 2 (sEd (G 9) (I 0) p - p)) 3 (sKd (G 9) (I 0) p)) 4 (sVl (G 9) (I 0) p)) J G)) (As := []) (rest := []) hz okYT (c6_goOn l_ D k b I J G p  hL (by omega) hT) (cwV 0 hz.2.2.2.2 gX6_readsFirst_X6_goOn rfl rfl rfl (by decide +kernel) ⟨Nat.le_of_ble_eq_true rfl, Nat.le_of_ble_eq_true rfl⟩) hK trivial hP hD hS 0 6 rfl rfl rfl rfl hl.1 rfl (Nat.le_of_ble_eq_true rfl) dX6_readsFirst_20 ⟨Nat.zero_le _, Nat.zero_le _⟩ (fun u H locs hp hP hS _ => ?_)
    have hP : va_P D vwCl (mw b k (nset (nset (nset (nset I 1 (sNx (G 9) (I 0) p)) 2 (sEd (G 9) (I 0) (sNx (G 9) (I 0) p) - (sNx (G 9) (I 0) p))) 3 (sKd (G 9) (I 0) (sNx (G 9) (I 0) p))) 4 (sVl (G 9) (I 0) (sNx (G 9) (I 0) p))) J G) H := hP
    have hD := mw_D (I' := nset (nset (nset (nset I 1 (sNx (G 9) (I 0) p)) 2 (sEd (G 9) (I 0) (sNx (G 9) (I 0) p) - (sNx (G 9) (I 0) p))) 3 (sKd (G 9) (I 0) (sNx (G 9) (I 0) p))) 4 (sVl (G 9) (I 0) (sNx (G 9) (I 0) p))) (J' := J) (G' := G) hD
    refine lv_aload_n hz.1 hz.2.1 dX6_readsFirst_23 rfl (lv_at hl 0 rfl) ?_
    refine lv_iconst (v := nI 0) hz.1 hz.2.1 dX6_readsFirst_24 (by decide) ?_
    refine lv_iconst (v := nI 2) hz.1 hz.2.1 dX6_readsFirst_25 (by decide) ?_
    refine lv_bipush (v := nI 9) hz.1 hz.2.1 dX6_readsFirst_26 (by decide) ?_
    by_cases hc_28 : sNum (G 9) (I 0) (sNx (G 9) (I 0) p) 2 9
    · refine wrV (A := wA (mw b k (nset (nset (nset (nset I 1 p) 2 (sEd (G 9) (I 0) p - p)) 3 (sKd (G 9) (I 0) p)) 4 (sVl (G 9) (I 0) p)) J G)) (As := [.int (nI 0), .int (nI 2), .int (nI 9)]) (rest := []) hz okYT (c6_takes_yes l_ D k b I J G (sNx (G 9) (I 0) p) 0 2 9 hL (by omega) hT (by omega) (by omega) hc_28) (cwV 3 hz.2.2.2.2 gX6_readsFirst_X6_takes rfl rfl rfl (by decide +kernel) ⟨Nat.le_of_ble_eq_true rfl, Nat.le_of_ble_eq_true rfl⟩) hK trivial hP hD hS 0 6 rfl rfl rfl rfl hl.1 rfl (Nat.le_of_ble_eq_true rfl) dX6_readsFirst_28 ⟨Nat.zero_le _, Nat.zero_le _⟩ (fun r u H locs hp hP hS _ => ?_)
      obtain rfl : r = bI true := hp
      have hP : va_P D vwCl (mw b k (nset (nset (nset (nset I 1 (sNx (G 9) (I 0) (sNx (G 9) (I 0) p))) 2 (sEd (G 9) (I 0) (sNx (G 9) (I 0) (sNx (G 9) (I 0) p)) - (sNx (G 9) (I 0) (sNx (G 9) (I 0) p)))) 3 (sKd (G 9) (I 0) (sNx (G 9) (I 0) (sNx (G 9) (I 0) p)))) 4 (sVl (G 9) (I 0) (sNx (G 9) (I 0) (sNx (G 9) (I 0) p)))) J (gset G 11 (nset (G 11) 0 (sVl (G 9) (I 0) (sNx (G 9) (I 0) p))))) H := hP
      have hD := mw_D (I' := nset (nset (nset (nset I 1 (sNx (G 9) (I 0) (sNx (G 9) (I 0) p))) 2 (sEd (G 9) (I 0) (sNx (G 9) (I 0) (sNx (G 9) (I 0) p)) - (sNx (G 9) (I 0) (sNx (G 9) (I 0) p)))) 3 (sKd (G 9) (I 0) (sNx (G 9) (I 0) (sNx (G 9) (I 0) p)))) 4 (sVl (G 9) (I 0) (sNx (G 9) (I 0) (sNx (G 9) (I 0) p)))) (J' := J) (G' := gset G 11 (nset (G 11) 0 (sVl (G 9) (I 0) (sNx (G 9) (I 0) p)))) hD
      refine lv_istore_n (lv' := [(1, .int (bI true)), (0, .ref (b 0))]) hz.1 hz.2.1 dX6_readsFirst_31 rfl hl (by decide) rfl (fun ls hl => ?_)
      refine lv_aload_n hz.1 hz.2.1 dX6_readsFirst_32 rfl (lv_at hl 1 rfl) ?_
      refine rg hz hinX6_readsFirst hK hP 0 rfl rfl 17 (by decide) (List.mem_of_getElem? (i := 1) rfl) rfl (v := .ref (b 11)) rfl dX6_readsFirst_33 ?_
      refine lv_aload_n hz.1 hz.2.1 dX6_readsFirst_36 rfl (lv_at hl 1 rfl) ?_
      refine rg hz hinX6_readsFirst hK hP 0 rfl rfl 18 (by decide) (List.mem_of_getElem? (i := 2) rfl) rfl (v := .ref (b 12)) rfl dX6_readsFirst_37 ?_
      refine lv_iconst (v := nI 0) hz.1 hz.2.1 dX6_readsFirst_40 (by decide) ?_
      refine rald hz hK hP 12 0 rfl rfl (i := 0) (by omega) (by decide) (v := nI ((nset (G 11) 0 (sVl (G 9) (I 0) (sNx (G 9) (I 0) p))) 0)) rfl dX6_readsFirst_41 ?_
      refine wrSv (A := wA (mw b k (nset (nset (nset (nset I 1 p) 2 (sEd (G 9) (I 0) p - p)) 3 (sKd (G 9) (I 0) p)) 4 (sVl (G 9) (I 0) p)) J G)) (As := [.ref (b 11), .int (nI ((nset (G 11) 0 (sVl (G 9) (I 0) (sNx (G 9) (I 0) p))) 0))]) (rest := []) hz okYT (c6_begin_next l_ D k b (nset (nset (nset (nset I 1 (sNx (G 9) (I 0) (sNx (G 9) (I 0) p))) 2 (sEd (G 9) (I 0) (sNx (G 9) (I 0) (sNx (G 9) (I 0) p)) - (sNx (G 9) (I 0) (sNx (G 9) (I 0) p)))) 3 (sKd (G 9) (I 0) (sNx (G 9) (I 0) (sNx (G 9) (I 0) p)))) 4 (sVl (G 9) (I 0) (sNx (G 9) (I 0) (sNx (G 9) (I 0) p)))) J (gset G 11 (nset (G 11) 0 (sVl (G 9) (I 0) (sNx (G 9) (I 0) p)))) ((nset (G 11) 0 (sVl (G 9) (I 0) (sNx (G 9) (I 0) p))) 0) ) (va_cwS 2 hz.2.2.2.2 gX6_readsFirst_X6_begin rfl rfl rfl (by decide +kernel) ⟨Nat.le_of_ble_eq_true rfl, Nat.le_of_ble_eq_true rfl⟩) hK trivial hP hD hS rfl hl.1 rfl (Nat.le_of_ble_eq_true rfl) dX6_readsFirst_42 ⟨Nat.zero_le _, Nat.zero_le _⟩ (fun u H locs hp hP hS _ => ?_)
      have hP : va_P D vwCl (mw b k (nset (nset (nset (nset I 1 (sNx (G 9) (I 0) (sNx (G 9) (I 0) p))) 2 (sEd (G 9) (I 0) (sNx (G 9) (I 0) (sNx (G 9) (I 0) p)) - (sNx (G 9) (I 0) (sNx (G 9) (I 0) p)))) 3 (sKd (G 9) (I 0) (sNx (G 9) (I 0) (sNx (G 9) (I 0) p)))) 4 (sVl (G 9) (I 0) (sNx (G 9) (I 0) (sNx (G 9) (I 0) p)))) J (gset (gset G 10 (sBegin (G 10) ((nset (G 11) 0 (sVl (G 9) (I 0) (sNx (G 9) (I 0) p))) 0))) 11 (nset (G 11) 0 (sVl (G 9) (I 0) (sNx (G 9) (I 0) p))))) H := hP
      have hD := mw_D (I' := nset (nset (nset (nset I 1 (sNx (G 9) (I 0) (sNx (G 9) (I 0) p))) 2 (sEd (G 9) (I 0) (sNx (G 9) (I 0) (sNx (G 9) (I 0) p)) - (sNx (G 9) (I 0) (sNx (G 9) (I 0) p)))) 3 (sKd (G 9) (I 0) (sNx (G 9) (I 0) (sNx (G 9) (I 0) p)))) 4 (sVl (G 9) (I 0) (sNx (G 9) (I 0) (sNx (G 9) (I 0) p)))) (J' := J) (G' := gset (gset G 10 (sBegin (G 10) ((nset (G 11) 0 (sVl (G 9) (I 0) (sNx (G 9) (I 0) p))) 0))) 11 (nset (G 11) 0 (sVl (G 9) (I 0) (sNx (G 9) (I 0) p)))) hD
      refine lv_iload_n hz.1 hz.2.1 dX6_readsFirst_45 rfl (lv_at hl 0 rfl) ?_
      refine zeq (tgt := 61) hz dX6_readsFirst_46 (by decide) (fun c_46 => ?_) (fun c_46 => ?_)
      · exact absurd c_46 (by decide)
      · refine lv_aload_n hz.1 hz.2.1 dX6_readsFirst_49 rfl (lv_at hl 1 rfl) ?_
        refine rg hz hinX6_readsFirst hK hP 0 rfl rfl 15 (by decide) (List.mem_of_getElem? (i := 3) rfl) rfl (v := .int (nI (sKd (G 9) (I 0) (sNx (G 9) (I 0) (sNx (G 9) (I 0) p))))) rfl dX6_readsFirst_50 ?_
        refine lv_iconst (v := nI 3) hz.1 hz.2.1 dX6_readsFirst_53 (by decide) ?_
        refine jne (tgt := 61) hz dX6_readsFirst_54 (by decide) (by omega) (by omega) (fun c_54 => ?_) (fun c_54 => ?_)
        · refine lv_iconst (v := nI 0) hz.1 hz.2.1 dX6_readsFirst_61 (by decide) ?_
          have eR : sR1 (G 9) (I 0) p = (decide (sKd (G 9) (I 0) (sNx (G 9) (I 0) (sNx (G 9) (I 0) p)) = 3), sNx (G 9) (I 0) (sNx (G 9) (I 0) p), sVl (G 9) (I 0) (sNx (G 9) (I 0) p)) := by rw [sR1, if_pos c_14, if_pos hc_28]
          have hP : va_P D vwCl (mw b k (nset (nset (nset (nset I 1 ((sR1 (G 9) (I 0) p).2.1)) 2 (sEd (G 9) (I 0) ((sR1 (G 9) (I 0) p).2.1) - ((sR1 (G 9) (I 0) p).2.1))) 3 (sKd (G 9) (I 0) ((sR1 (G 9) (I 0) p).2.1))) 4 (sVl (G 9) (I 0) ((sR1 (G 9) (I 0) p).2.1))) J (gset (gset G 10 (sBegin (G 10) ((nset (G 11) 0 (sVl (G 9) (I 0) (sNx (G 9) (I 0) p))) 0))) 11 (nset (G 11) 0 (sVl (G 9) (I 0) (sNx (G 9) (I 0) p))))) H := by rw [eR]; exact hP
          exact wr_zret hz hr hlk dX6_readsFirst_62 hS (bI_0 (z := decide (sKd (G 9) (I 0) (sNx (G 9) (I 0) (sNx (G 9) (I 0) p)) = 3)) (by simp [c_54])) ((sBegin (G 10) ((nset (G 11) 0 (sVl (G 9) (I 0) (sNx (G 9) (I 0) p))) 0), nset (G 11) 0 (sVl (G 9) (I 0) (sNx (G 9) (I 0) p)))) hP (⟨by rw [eR], fun _ => by first | (rw [eR]; done) | (rw [eR]; rfl)⟩)
        · refine lv_iconst (v := nI 1) hz.1 hz.2.1 dX6_readsFirst_57 (by decide) ?_
          refine lv_goto (tgt := 62) hz.1 hz.2.1 dX6_readsFirst_58 (by decide) ?_
          have eR : sR1 (G 9) (I 0) p = (decide (sKd (G 9) (I 0) (sNx (G 9) (I 0) (sNx (G 9) (I 0) p)) = 3), sNx (G 9) (I 0) (sNx (G 9) (I 0) p), sVl (G 9) (I 0) (sNx (G 9) (I 0) p)) := by rw [sR1, if_pos c_14, if_pos hc_28]
          have hP : va_P D vwCl (mw b k (nset (nset (nset (nset I 1 ((sR1 (G 9) (I 0) p).2.1)) 2 (sEd (G 9) (I 0) ((sR1 (G 9) (I 0) p).2.1) - ((sR1 (G 9) (I 0) p).2.1))) 3 (sKd (G 9) (I 0) ((sR1 (G 9) (I 0) p).2.1))) 4 (sVl (G 9) (I 0) ((sR1 (G 9) (I 0) p).2.1))) J (gset (gset G 10 (sBegin (G 10) ((nset (G 11) 0 (sVl (G 9) (I 0) (sNx (G 9) (I 0) p))) 0))) 11 (nset (G 11) 0 (sVl (G 9) (I 0) (sNx (G 9) (I 0) p))))) H := by rw [eR]; exact hP
          exact wr_zret hz hr hlk dX6_readsFirst_62 hS (bI_1 (z := decide (sKd (G 9) (I 0) (sNx (G 9) (I 0) (sNx (G 9) (I 0) p)) = 3)) (by simp [c_54])) ((sBegin (G 10) ((nset (G 11) 0 (sVl (G 9) (I 0) (sNx (G 9) (I 0) p))) 0), nset (G 11) 0 (sVl (G 9) (I 0) (sNx (G 9) (I 0) p)))) hP (⟨by rw [eR], fun _ => by first | (rw [eR]; done) | (rw [eR]; rfl)⟩)
    · refine rdV (A := wA (mw b k (nset (nset (nset (nset I 1 p) 2 (sEd (G 9) (I 0) p - p)) 3 (sKd (G 9) (I 0) p)) 4 (sVl (G 9) (I 0) p)) J G)) (As := [.int (nI 0), .int (nI 2), .int (nI 9)]) (rest := []) hz okYT (c6_takes_no l_ D k b I J G (sNx (G 9) (I 0) p) 0 2 9 hL (by omega) hT (by omega) (by omega) (by omega) hc_28) (cwV 3 hz.2.2.2.2 gX6_readsFirst_X6_takes rfl rfl rfl (by decide +kernel) ⟨Nat.le_of_ble_eq_true rfl, Nat.le_of_ble_eq_true rfl⟩) hK trivial hP hD hS 0 6 rfl rfl rfl rfl hl.1 rfl (Nat.le_of_ble_eq_true rfl) dX6_readsFirst_28 ⟨Nat.zero_le _, Nat.zero_le _⟩ ?_
      refine lv_istore_n (lv' := [(1, .int (bI false)), (0, .ref (b 0))]) hz.1 hz.2.1 dX6_readsFirst_31 rfl hl (by decide) rfl (fun ls hl => ?_)
      refine lv_aload_n hz.1 hz.2.1 dX6_readsFirst_32 rfl (lv_at hl 1 rfl) ?_
      refine rg hz hinX6_readsFirst hK hP 0 rfl rfl 17 (by decide) (List.mem_of_getElem? (i := 1) rfl) rfl (v := .ref (b 11)) rfl dX6_readsFirst_33 ?_
      refine lv_aload_n hz.1 hz.2.1 dX6_readsFirst_36 rfl (lv_at hl 1 rfl) ?_
      refine rg hz hinX6_readsFirst hK hP 0 rfl rfl 18 (by decide) (List.mem_of_getElem? (i := 2) rfl) rfl (v := .ref (b 12)) rfl dX6_readsFirst_37 ?_
      refine lv_iconst (v := nI 0) hz.1 hz.2.1 dX6_readsFirst_40 (by decide) ?_
      refine rald hz hK hP 12 0 rfl rfl (i := 0) (by omega) (by decide) (v := nI (G 11 0)) rfl dX6_readsFirst_41 ?_
      refine wrSv (A := wA (mw b k (nset (nset (nset (nset I 1 p) 2 (sEd (G 9) (I 0) p - p)) 3 (sKd (G 9) (I 0) p)) 4 (sVl (G 9) (I 0) p)) J G)) (As := [.ref (b 11), .int (nI (G 11 0))]) (rest := []) hz okYT (c6_begin_next l_ D k b (nset (nset (nset (nset I 1 (sNx (G 9) (I 0) p)) 2 (sEd (G 9) (I 0) (sNx (G 9) (I 0) p) - (sNx (G 9) (I 0) p))) 3 (sKd (G 9) (I 0) (sNx (G 9) (I 0) p))) 4 (sVl (G 9) (I 0) (sNx (G 9) (I 0) p))) J G (G 11 0) ) (va_cwS 2 hz.2.2.2.2 gX6_readsFirst_X6_begin rfl rfl rfl (by decide +kernel) ⟨Nat.le_of_ble_eq_true rfl, Nat.le_of_ble_eq_true rfl⟩) hK trivial hP hD hS rfl hl.1 rfl (Nat.le_of_ble_eq_true rfl) dX6_readsFirst_42 ⟨Nat.zero_le _, Nat.zero_le _⟩ (fun u H locs hp hP hS _ => ?_)
      have hP : va_P D vwCl (mw b k (nset (nset (nset (nset I 1 (sNx (G 9) (I 0) p)) 2 (sEd (G 9) (I 0) (sNx (G 9) (I 0) p) - (sNx (G 9) (I 0) p))) 3 (sKd (G 9) (I 0) (sNx (G 9) (I 0) p))) 4 (sVl (G 9) (I 0) (sNx (G 9) (I 0) p))) J (gset G 10 (sBegin (G 10) (G 11 0)))) H := hP
      have hD := mw_D (I' := nset (nset (nset (nset I 1 (sNx (G 9) (I 0) p)) 2 (sEd (G 9) (I 0) (sNx (G 9) (I 0) p) - (sNx (G 9) (I 0) p))) 3 (sKd (G 9) (I 0) (sNx (G 9) (I 0) p))) 4 (sVl (G 9) (I 0) (sNx (G 9) (I 0) p))) (J' := J) (G' := gset G 10 (sBegin (G 10) (G 11 0))) hD
      refine lv_iload_n hz.1 hz.2.1 dX6_readsFirst_45 rfl (lv_at hl 0 rfl) ?_
      refine zeq (tgt := 61) hz dX6_readsFirst_46 (by decide) (fun c_46 => ?_) (fun c_46 => ?_)
      · refine lv_iconst (v := nI 0) hz.1 hz.2.1 dX6_readsFirst_61 (by decide) ?_
        have eR : sR1 (G 9) (I 0) p = (false, sNx (G 9) (I 0) p, 0) := by rw [sR1, if_pos c_14, if_neg hc_28]
        have hP : va_P D vwCl (mw b k (nset (nset (nset (nset I 1 ((sR1 (G 9) (I 0) p).2.1)) 2 (sEd (G 9) (I 0) ((sR1 (G 9) (I 0) p).2.1) - ((sR1 (G 9) (I 0) p).2.1))) 3 (sKd (G 9) (I 0) ((sR1 (G 9) (I 0) p).2.1))) 4 (sVl (G 9) (I 0) ((sR1 (G 9) (I 0) p).2.1))) J (gset (gset G 10 (sBegin (G 10) (G 11 0))) 11 (G 11))) H := by rw [eR]; exact hP
        exact wr_zret hz hr hlk dX6_readsFirst_62 hS (show nI 0 = bI false from rfl) ((sBegin (G 10) (G 11 0), G 11)) hP (⟨by rw [eR], fun q => by rw [eR] at q; cases q⟩)
      · exact absurd c_46 (by decide)
  · refine lv_iconst (v := nI 0) hz.1 hz.2.1 dX6_readsFirst_17 (by decide) ?_
    have eR : sR1 (G 9) (I 0) p = (false, p, 0) := by rw [sR1, if_neg (by rw [c_14]; decide)]
    have hP : va_P D vwCl (mw b k (nset (nset (nset (nset I 1 ((sR1 (G 9) (I 0) p).2.1)) 2 (sEd (G 9) (I 0) ((sR1 (G 9) (I 0) p).2.1) - ((sR1 (G 9) (I 0) p).2.1))) 3 (sKd (G 9) (I 0) ((sR1 (G 9) (I 0) p).2.1))) 4 (sVl (G 9) (I 0) ((sR1 (G 9) (I 0) p).2.1))) J (gset (gset G 10 (G 10)) 11 (G 11))) s_.heap := by rw [eR]; exact hP
    exact wr_zret hz hr hlk dX6_readsFirst_18 hS (show nI 0 = bI false from rfl) ((G 10, G 11)) hP (⟨by rw [eR], fun q => by rw [eR] at q; cases q⟩)

theorem hinX6_read : ∀ w ∈ wsX60, w ∈ wsX6_read := fun _ h => List.mem_cons_of_mem _ (List.mem_append_right _ h)
set_option maxHeartbeats 4000000 in
set_option maxRecDepth 100000 in
theorem c6_read (l_ : Launch) (D : va_G) (k : Nat → ClassId) (b I J : Nat → Nat) (G : Nat → Nat → Nat)  (hL : I 0 ≤ 200) (hT : ∀ j, G 9 j < 256) : Met l_ yX6_read wsX6_read ({ frames := 7, cells := 0, slots := 0, locals := 153 }) (va_Pc [.ref (b 0)] (wH YT D k (mw b k I J G))) (va_Qi (fun (r : Int32) (u : (Nat → Nat) × (Nat → Nat) × (Nat → Nat) × (Nat → Nat)) => ((sRd (G 9) (I 0) (G 10)).1 = true → r = nI (sRd (G 9) (I 0) (G 10)).2.1 ∧ u.2.1 = cget (G 0) (sRd (G 9) (I 0) (G 10)).2.2 0 57) ∧ ((sRd (G 9) (I 0) (G 10)).1 = false → r = (-10) - nI (sRd (G 9) (I 0) (G 10)).2.1 ∧ u.2.1 = G 0) ∧ u.1 0 = I 0) (fun (u : (Nat → Nat) × (Nat → Nat) × (Nat → Nat) × (Nat → Nat)) (t_ : State) => va_P D vwCl ((fun (u : (Nat → Nat) × (Nat → Nat) × (Nat → Nat) × (Nat → Nat)) => mw b k u.1 J (gset (gset (gset G 0 u.2.1) 10 u.2.2.1) 11 u.2.2.2)) u) t_.heap) (wA (mw b k I J G))) 0 0 (wA (mw b k I J G)) := by
  refine my_entry (cc := cX6_read) (maxL := 3) (ret := some .int) (by decide) rfl (Nat.le_of_ble_eq_true rfl) ?_
  intro p_ e_ s_ m_ bl_ me_ c_ hz hr hlk hB ls hl
  obtain ⟨hP, hK, hD0, -⟩ := hB
  have hD := wA.self hD0
  have hS : va_S (wA (mw b k I J G)) s_.heap s_.heap [] := va_S.rf
  have hl : lv_has ls 3 [(0, .ref (b 0))] := hl
  have a0 := sAt_le (T := G 9) (L := I 0) (I 0) 0 (by omega) (by omega)
  refine lv_aload_n hz.1 hz.2.1 dX6_read_0 rfl (lv_at hl 0 rfl) ?_
  refine rg hz hinX6_read hK hP 0 rfl rfl 18 (by decide) (List.mem_of_getElem? (i := 1) rfl) rfl (v := .ref (b 12)) rfl dX6_read_1 ?_
  refine lv_iconst (v := nI 0) hz.1 hz.2.1 dX6_read_4 (by decide) ?_
  refine lv_iconst (v := nI 2) hz.1 hz.2.1 dX6_read_5 (by decide) ?_
  refine rast hz hK hP hD hS 12 0 rfl rfl (i := 0) (v := 2) (by omega) (by decide) dX6_read_6 (fun H locs hP hS => ?_)
  have hP : va_P D vwCl (mw b k I J (gset G 11 (nset (G 11) 0 2))) H := hP
  have hD := mw_D (I' := I) (J' := J) (G' := gset G 11 (nset (G 11) 0 2)) hD
  refine lv_aload_n hz.1 hz.2.1 dX6_read_7 rfl (lv_at hl 0 rfl) ?_
  refine lv_iconst (v := nI 0) hz.1 hz.2.1 dX6_read_8 (by decide) ?_
  refine wrVv (A := wA (mw b k I J G)) (As := [.int (nI 0)]) (rest := []) hz okYT (c6_look l_ D k b I J (gset G 11 (nset (G 11) 0 2)) 0 hL (by omega) hT) (cwV 1 hz.2.2.2.2 gX6_read_X6_look rfl rfl rfl (by decide +kernel) ⟨Nat.le_of_ble_eq_true rfl, Nat.le_of_ble_eq_true rfl⟩) hK trivial hP hD hS 0 6 rfl rfl rfl rfl hl.1 rfl (Nat.le_of_ble_eq_true rfl) dX6_read_9 ⟨Nat.zero_le _, Nat.zero_le _⟩ (fun u H locs hp hP hS _ => ?_)
  have hP : va_P D vwCl (mw b k (nset (nset (nset (nset I 1 (sAt (G 9) (I 0) 0)) 2 (sEd (G 9) (I 0) (sAt (G 9) (I 0) 0) - (sAt (G 9) (I 0) 0))) 3 (sKd (G 9) (I 0) (sAt (G 9) (I 0) 0))) 4 (sVl (G 9) (I 0) (sAt (G 9) (I 0) 0))) J (gset G 11 (nset (G 11) 0 2))) H := hP
  have hD := mw_D (I' := nset (nset (nset (nset I 1 (sAt (G 9) (I 0) 0)) 2 (sEd (G 9) (I 0) (sAt (G 9) (I 0) 0) - (sAt (G 9) (I 0) 0))) 3 (sKd (G 9) (I 0) (sAt (G 9) (I 0) 0))) 4 (sVl (G 9) (I 0) (sAt (G 9) (I 0) 0))) (J' := J) (G' := gset G 11 (nset (G 11) 0 2)) hD
  refine lv_aload_n hz.1 hz.2.1 dX6_read_12 rfl (lv_at hl 0 rfl) ?_
  refine wrV (A := wA (mw b k I J G)) (As := []) (rest := []) hz okYT (c6_readsFirst l_ D k b I J (gset G 11 (nset (G 11) 0 2)) (sAt (G 9) (I 0) 0)  hL a0.2 hT) (cwV 0 hz.2.2.2.2 gX6_read_X6_readsFirst rfl rfl rfl (by decide +kernel) ⟨Nat.le_of_ble_eq_true rfl, Nat.le_of_ble_eq_true rfl⟩) hK trivial hP hD hS 0 6 rfl rfl rfl rfl hl.1 rfl (Nat.le_of_ble_eq_true rfl) dX6_read_13 ⟨Nat.zero_le _, Nat.zero_le _⟩ (fun r u H locs hp hP hS _ => ?_)
  obtain ⟨N1, V1⟩ := u
  obtain ⟨hr1, hN1⟩ := hp
  obtain rfl : r = bI (sR1 (G 9) (I 0) (sAt (G 9) (I 0) 0)).1 := hr1
  have hN1 : (sR1 (G 9) (I 0) (sAt (G 9) (I 0) 0)).1 = true → N1 = sBegin (G 10) (sR1 (G 9) (I 0) (sAt (G 9) (I 0) 0)).2.2 := hN1
  have hP : va_P D vwCl (mw b k (nset (nset (nset (nset I 1 ((sR1 (G 9) (I 0) (sAt (G 9) (I 0) 0)).2.1)) 2 (sEd (G 9) (I 0) ((sR1 (G 9) (I 0) (sAt (G 9) (I 0) 0)).2.1) - ((sR1 (G 9) (I 0) (sAt (G 9) (I 0) 0)).2.1))) 3 (sKd (G 9) (I 0) ((sR1 (G 9) (I 0) (sAt (G 9) (I 0) 0)).2.1))) 4 (sVl (G 9) (I 0) ((sR1 (G 9) (I 0) (sAt (G 9) (I 0) 0)).2.1))) J (gset (gset G 10 N1) 11 V1)) H := hP
  have hD := mw_D (I' := nset (nset (nset (nset I 1 ((sR1 (G 9) (I 0) (sAt (G 9) (I 0) 0)).2.1)) 2 (sEd (G 9) (I 0) ((sR1 (G 9) (I 0) (sAt (G 9) (I 0) 0)).2.1) - ((sR1 (G 9) (I 0) (sAt (G 9) (I 0) 0)).2.1))) 3 (sKd (G 9) (I 0) ((sR1 (G 9) (I 0) (sAt (G 9) (I 0) 0)).2.1))) 4 (sVl (G 9) (I 0) ((sR1 (G 9) (I 0) (sAt (G 9) (I 0) 0)).2.1))) (J' := J) (G' := gset (gset G 10 N1) 11 V1) hD
  refine zne (tgt := 27) hz dX6_read_16 (by decide) (fun c_16 => ?_) (fun c_16 => ?_)
  · have eR0 : sRd (G 9) (I 0) (G 10) = sRdL (G 9) (I 0) 300 (sNx (G 9) (I 0) (sR1 (G 9) (I 0) (sAt (G 9) (I 0) 0)).2.1) (sBegin (G 10) (sR1 (G 9) (I 0) (sAt (G 9) (I 0) 0)).2.2) 1 := by rw [sRd, if_pos c_16]
    obtain rfl := hN1 c_16
    have hq1 : (sR1 (G 9) (I 0) (sAt (G 9) (I 0) 0)).2.1 ≤ I 0 := sR1_le a0.2
    have hq2 := sNx_in (T := G 9) hq1
    have hw1 : Wf (sBegin (G 10) (sR1 (G 9) (I 0) (sAt (G 9) (I 0) 0)).2.2) := sR1_Wf c_16
    refine lv_aload_n hz.1 hz.2.1 dX6_read_27 rfl (lv_at hl 0 rfl) ?_
    refine wrVv (A := wA (mw b k I J G)) (As := []) (rest := []) hz okYT (c6_goOn l_ D k b I J (gset (gset G 10 ((sBegin (G 10) (sR1 (G 9) (I 0) (sAt (G 9) (I 0) 0)).2.2))) 11 V1) ((sR1 (G 9) (I 0) (sAt (G 9) (I 0) 0)).2.1)  hL hq1 hT) (cwV 0 hz.2.2.2.2 gX6_read_X6_goOn rfl rfl rfl (by decide +kernel) ⟨Nat.le_of_ble_eq_true rfl, Nat.le_of_ble_eq_true rfl⟩) hK trivial hP hD hS 0 6 rfl rfl rfl rfl hl.1 rfl (Nat.le_of_ble_eq_true rfl) dX6_read_28 ⟨Nat.zero_le _, Nat.zero_le _⟩ (fun u H locs hp hP hS _ => ?_)
    have hP : va_P D vwCl (mw b k (nset (nset (nset (nset I 1 (sNx (G 9) (I 0) ((sR1 (G 9) (I 0) (sAt (G 9) (I 0) 0)).2.1))) 2 (sEd (G 9) (I 0) (sNx (G 9) (I 0) ((sR1 (G 9) (I 0) (sAt (G 9) (I 0) 0)).2.1)) - (sNx (G 9) (I 0) ((sR1 (G 9) (I 0) (sAt (G 9) (I 0) 0)).2.1)))) 3 (sKd (G 9) (I 0) (sNx (G 9) (I 0) ((sR1 (G 9) (I 0) (sAt (G 9) (I 0) 0)).2.1)))) 4 (sVl (G 9) (I 0) (sNx (G 9) (I 0) ((sR1 (G 9) (I 0) (sAt (G 9) (I 0) 0)).2.1)))) J (gset (gset G 10 ((sBegin (G 10) (sR1 (G 9) (I 0) (sAt (G 9) (I 0) 0)).2.2))) 11 V1)) H := hP
    have hD := mw_D (I' := nset (nset (nset (nset I 1 (sNx (G 9) (I 0) ((sR1 (G 9) (I 0) (sAt (G 9) (I 0) 0)).2.1))) 2 (sEd (G 9) (I 0) (sNx (G 9) (I 0) ((sR1 (G 9) (I 0) (sAt (G 9) (I 0) 0)).2.1)) - (sNx (G 9) (I 0) ((sR1 (G 9) (I 0) (sAt (G 9) (I 0) 0)).2.1)))) 3 (sKd (G 9) (I 0) (sNx (G 9) (I 0) ((sR1 (G 9) (I 0) (sAt (G 9) (I 0) 0)).2.1)))) 4 (sVl (G 9) (I 0) (sNx (G 9) (I 0) ((sR1 (G 9) (I 0) (sAt (G 9) (I 0) 0)).2.1)))) (J' := J) (G' := gset (gset G 10 ((sBegin (G 10) (sR1 (G 9) (I 0) (sAt (G 9) (I 0) 0)).2.2))) 11 V1) hD
    refine lv_iconst (v := nI 1) hz.1 hz.2.1 dX6_read_31 (by decide) ?_
    refine lv_istore_n (lv' := [(1, .int (nI 1)), (0, .ref (b 0))]) hz.1 hz.2.1 dX6_read_32 rfl hl (by decide) rfl (fun ls hl => ?_)
    have lp_33 : ∀ (fu : Nat) (f2 : Nat) (p : Nat) (it : Nat) (N : Nat → Nat) (V : Nat → Nat), (sRd (G 9) (I 0) (G 10) = sRdL (G 9) (I 0) f2 p N it) → (I 0 - p < f2) → (p ≤ I 0) → (Wf N) → (it ≤ p + 1) → I 0 - p < fu → ∀ ls : Array Slot, ∀ (H : Heap) (locs : List Loc), va_P D vwCl (mw b k (nset (nset (nset (nset I 1 p) 2 (sEd (G 9) (I 0) p - p)) 3 (sKd (G 9) (I 0) p)) 4 (sVl (G 9) (I 0) p)) J (gset (gset G 10 N) 11 V)) H → va_S (wA (mw b k I J G)) s_.heap H locs → lv_has ls 3 [(0, .ref (b 0)), (1, .int (nI it))] → W p_ l_ e_ ({ frames := 7, cells := 0, slots := 0, locals := 153 }) s_ m_ [.ref (b 0)].toArray bl_ me_ c_ H locs 0 0 (MQ bl_ (va_Qi (fun (r : Int32) (u : (Nat → Nat) × (Nat → Nat) × (Nat → Nat) × (Nat → Nat)) => ((sRd (G 9) (I 0) (G 10)).1 = true → r = nI (sRd (G 9) (I 0) (G 10)).2.1 ∧ u.2.1 = cget (G 0) (sRd (G 9) (I 0) (G 10)).2.2 0 57) ∧ ((sRd (G 9) (I 0) (G 10)).1 = false → r = (-10) - nI (sRd (G 9) (I 0) (G 10)).2.1 ∧ u.2.1 = G 0) ∧ u.1 0 = I 0) (fun (u : (Nat → Nat) × (Nat → Nat) × (Nat → Nat) × (Nat → Nat)) (t_ : State) => va_P D vwCl ((fun (u : (Nat → Nat) × (Nat → Nat) × (Nat → Nat) × (Nat → Nat)) => mw b k u.1 J (gset (gset (gset G 0 u.2.1) 10 u.2.2.1) 11 u.2.2.2)) u) t_.heap) (wA (mw b k I J G))) [.ref (b 0)].toArray s_ 0 0 (wA (mw b k I J G))) (F0 m_ 33 ls []) := by
      intro fu
      induction fu with
      | zero => intro f2 p it N V hR hf2 hpl hNw hit hm; exact absurd hm (Nat.not_lt_zero _)
      | succ fu ih33 =>
        intro f2 p it N V hR hf2 hpl hNw hit hm ls H locs hP hS hl
        have hD := mw_D (I' := nset (nset (nset (nset I 1 p) 2 (sEd (G 9) (I 0) p - p)) 3 (sKd (G 9) (I 0) p)) 4 (sVl (G 9) (I 0) p)) (J' := J) (G' := gset (gset G 10 N) 11 V) hD
        refine lv_aload_n hz.1 hz.2.1 dX6_read_33 rfl (lv_at hl 0 rfl) ?_
        have kk4 := sKd_le (G 9) (I 0) p
        refine rg hz hinX6_read hK hP 0 rfl rfl 15 (by decide) (List.mem_of_getElem? (i := 3) rfl) rfl (v := .int (nI (sKd (G 9) (I 0) p))) rfl dX6_read_34 ?_
        refine jeq0 (tgt := 73) hz dX6_read_37 (by decide) (by omega) (fun c_37 => ?_) (fun c_37 => ?_)
        · obtain ⟨f3, rfl⟩ : ∃ f3, f2 = f3 + 1 := ⟨f2 - 1, by omega⟩
          have eR : sRd (G 9) (I 0) (G 10) = (true, it, N) := by rw [hR, sRdL, if_pos c_37]
          refine lv_iconst (v := nI 0) hz.1 hz.2.1 dX6_read_73 (by decide) ?_
          refine lv_istore_n (lv' := [(2, .int (nI 0)), (0, .ref (b 0)), (1, .int (nI it))]) hz.1 hz.2.1 dX6_read_74 rfl hl (by decide) rfl (fun ls hl => ?_)
          have lp_75 : ∀ (fu : Nat) (q : Nat), (q ≤ 57) → 57 - q < fu → ∀ ls : Array Slot, ∀ (H : Heap) (locs : List Loc), va_P D vwCl (mw b k (nset (nset (nset (nset I 1 p) 2 (sEd (G 9) (I 0) p - p)) 3 (sKd (G 9) (I 0) p)) 4 (sVl (G 9) (I 0) p)) J (gset (gset (gset G 0 (cget (G 0) N 0 q)) 10 N) 11 V)) H → va_S (wA (mw b k I J G)) s_.heap H locs → lv_has ls 3 [(0, .ref (b 0)), (1, .int (nI it)), (2, .int (nI q))] → W p_ l_ e_ ({ frames := 7, cells := 0, slots := 0, locals := 153 }) s_ m_ [.ref (b 0)].toArray bl_ me_ c_ H locs 0 0 (MQ bl_ (va_Qi (fun (r : Int32) (u : (Nat → Nat) × (Nat → Nat) × (Nat → Nat) × (Nat → Nat)) => ((sRd (G 9) (I 0) (G 10)).1 = true → r = nI (sRd (G 9) (I 0) (G 10)).2.1 ∧ u.2.1 = cget (G 0) (sRd (G 9) (I 0) (G 10)).2.2 0 57) ∧ ((sRd (G 9) (I 0) (G 10)).1 = false → r = (-10) - nI (sRd (G 9) (I 0) (G 10)).2.1 ∧ u.2.1 = G 0) ∧ u.1 0 = I 0) (fun (u : (Nat → Nat) × (Nat → Nat) × (Nat → Nat) × (Nat → Nat)) (t_ : State) => va_P D vwCl ((fun (u : (Nat → Nat) × (Nat → Nat) × (Nat → Nat) × (Nat → Nat)) => mw b k u.1 J (gset (gset (gset G 0 u.2.1) 10 u.2.2.1) 11 u.2.2.2)) u) t_.heap) (wA (mw b k I J G))) [.ref (b 0)].toArray s_ 0 0 (wA (mw b k I J G))) (F0 m_ 75 ls []) := by
            intro fu
            induction fu with
            | zero => intro q hq hm; exact absurd hm (Nat.not_lt_zero _)
            | succ fu ih75 =>
              intro q hq hm ls H locs hP hS hl
              have hD := mw_D (I' := nset (nset (nset (nset I 1 p) 2 (sEd (G 9) (I 0) p - p)) 3 (sKd (G 9) (I 0) p)) 4 (sVl (G 9) (I 0) p)) (J' := J) (G' := gset (gset (gset G 0 (cget (G 0) N 0 q)) 10 N) 11 V) hD
              refine lv_iload_n hz.1 hz.2.1 dX6_read_75 rfl (lv_at hl 2 rfl) ?_
              refine lv_bipush (v := nI 57) hz.1 hz.2.1 dX6_read_76 (by decide) ?_
              refine jge (tgt := 99) hz dX6_read_78 (by decide) (by omega) (by omega) (fun c_78 => ?_) (fun c_78 => ?_)
              · obtain rfl : q = 57 := by omega
                refine lv_iload_n hz.1 hz.2.1 dX6_read_99 rfl (lv_at hl 1 rfl) ?_
                exact wr_iret hz hr hlk dX6_read_100 hS ((nset (nset (nset (nset I 1 p) 2 (sEd (G 9) (I 0) p - p)) 3 (sKd (G 9) (I 0) p)) 4 (sVl (G 9) (I 0) p), cget (G 0) N 0 57, N, V)) hP (⟨(fun _ => by rw [eR]; exact ⟨rfl, rfl⟩), (fun q => by rw [eR] at q; cases q), rfl⟩)
              · refine lv_aload_n hz.1 hz.2.1 dX6_read_81 rfl (lv_at hl 0 rfl) ?_
                refine rg hz hinX6_read hK hP 0 rfl rfl 0 (by decide) (List.mem_of_getElem? (i := 4) rfl) rfl (v := .ref (b 1)) rfl dX6_read_82 ?_
                refine lv_iload_n hz.1 hz.2.1 dX6_read_85 rfl (lv_at hl 2 rfl) ?_
                refine lv_aload_n hz.1 hz.2.1 dX6_read_86 rfl (lv_at hl 0 rfl) ?_
                refine rg hz hinX6_read hK hP 0 rfl rfl 17 (by decide) (List.mem_of_getElem? (i := 5) rfl) rfl (v := .ref (b 11)) rfl dX6_read_87 ?_
                refine lv_iload_n hz.1 hz.2.1 dX6_read_90 rfl (lv_at hl 2 rfl) ?_
                refine rald hz hK hP 11 0 rfl rfl (i := q) (by omega) (by decide) (v := nI (N q)) rfl dX6_read_91 ?_
                refine rast hz hK hP hD hS 1 0 rfl rfl (i := q) (v := (N q)) (by omega) (by decide) dX6_read_92 (fun H locs hP hS => ?_)
                have hP : va_P D vwCl (mw b k (nset (nset (nset (nset I 1 p) 2 (sEd (G 9) (I 0) p - p)) 3 (sKd (G 9) (I 0) p)) 4 (sVl (G 9) (I 0) p)) J (gset (gset (gset G 0 (nset (cget (G 0) N 0 q) q (N q))) 10 N) 11 V)) H := hP
                have hD := mw_D (I' := nset (nset (nset (nset I 1 p) 2 (sEd (G 9) (I 0) p - p)) 3 (sKd (G 9) (I 0) p)) 4 (sVl (G 9) (I 0) p)) (J' := J) (G' := gset (gset (gset G 0 (nset (cget (G 0) N 0 q) q (N q))) 10 N) 11 V) hD
                have hP : va_P D vwCl (mw b k (nset (nset (nset (nset I 1 p) 2 (sEd (G 9) (I 0) p - p)) 3 (sKd (G 9) (I 0) p)) 4 (sVl (G 9) (I 0) p)) J (gset (gset (gset G 0 (cget (G 0) N 0 (q + 1))) 10 N) 11 V)) H := by rw [show N q = N (0 + q) by rw [Nat.zero_add]] at hP; rw [← cget_s]; exact hP
                have hD := mw_D (I' := nset (nset (nset (nset I 1 p) 2 (sEd (G 9) (I 0) p - p)) 3 (sKd (G 9) (I 0) p)) 4 (sVl (G 9) (I 0) p)) (J' := J) (G' := gset (gset (gset G 0 (cget (G 0) N 0 (q + 1))) 10 N) 11 V) hD
                refine lv_iinc (v := nI (q + 1)) (lv' := [(2, .int (nI (q + 1))), (0, .ref (b 0)), (1, .int (nI it))]) hz.1 hz.2.1 dX6_read_93 hl (k := 2) rfl (nI_add _ 1) (by decide) rfl (fun ls hl => ?_)
                refine lv_goto (tgt := 75) hz.1 hz.2.1 dX6_read_96 (by decide) ?_
                exact ih75 (q + 1) (by omega) (by omega) ls H locs hP hS (lv_sub hl [1, 2, 0] rfl)
          have hP : va_P D vwCl (mw b k (nset (nset (nset (nset I 1 p) 2 (sEd (G 9) (I 0) p - p)) 3 (sKd (G 9) (I 0) p)) 4 (sVl (G 9) (I 0) p)) J (gset (gset (gset G 0 (cget (G 0) N 0 0)) 10 N) 11 V)) H := by rw [cget_0]; exact hP
          exact lp_75 _ 0 (by omega) (Nat.lt_succ_self _) ls _ _ hP hS (lv_sub hl [1, 2, 0] rfl)
        · obtain ⟨f3, rfl⟩ : ∃ f3, f2 = f3 + 1 := ⟨f2 - 1, by omega⟩
          have hs1 := sIt_le (T := G 9) N hpl
          have kk5 := sKd_le (G 9) (I 0) (sIt (G 9) (I 0) p N).2.1
          have hplt := sKd_pos c_37
          refine lv_aload_n hz.1 hz.2.1 dX6_read_40 rfl (lv_at hl 0 rfl) ?_
          refine wrV (A := wA (mw b k I J G)) (As := []) (rest := []) hz okYT (c6_readsItem l_ D k b I J (gset (gset G 10 N) 11 V) p  hL hpl hT hNw) (cwV 0 hz.2.2.2.2 gX6_read_X6_readsItem rfl rfl rfl (by decide +kernel) ⟨Nat.le_of_ble_eq_true rfl, Nat.le_of_ble_eq_true rfl⟩) hK trivial hP hD hS 0 6 rfl rfl rfl rfl hl.1 rfl (Nat.le_of_ble_eq_true rfl) dX6_read_41 ⟨Nat.zero_le _, Nat.zero_le _⟩ (fun r u H locs hp hP hS _ => ?_)
          obtain ⟨N2, V2⟩ := u
          obtain ⟨hr2, hN2⟩ := hp
          obtain rfl : r = bI (sIt (G 9) (I 0) p N).1 := hr2
          have hN2 : (sIt (G 9) (I 0) p N).1 = true → N2 = (sIt (G 9) (I 0) p N).2.2 := hN2
          have hP : va_P D vwCl (mw b k (nset (nset (nset (nset I 1 ((sIt (G 9) (I 0) p N).2.1)) 2 (sEd (G 9) (I 0) ((sIt (G 9) (I 0) p N).2.1) - ((sIt (G 9) (I 0) p N).2.1))) 3 (sKd (G 9) (I 0) ((sIt (G 9) (I 0) p N).2.1))) 4 (sVl (G 9) (I 0) ((sIt (G 9) (I 0) p N).2.1))) J (gset (gset G 10 N2) 11 V2)) H := hP
          have hD := mw_D (I' := nset (nset (nset (nset I 1 ((sIt (G 9) (I 0) p N).2.1)) 2 (sEd (G 9) (I 0) ((sIt (G 9) (I 0) p N).2.1) - ((sIt (G 9) (I 0) p N).2.1))) 3 (sKd (G 9) (I 0) ((sIt (G 9) (I 0) p N).2.1))) 4 (sVl (G 9) (I 0) ((sIt (G 9) (I 0) p N).2.1))) (J' := J) (G' := gset (gset G 10 N2) 11 V2) hD
          refine zeq (tgt := 55) hz dX6_read_44 (by decide) (fun c_44 => ?_) (fun c_44 => ?_)
          · refine lv_bipush (v := (-10)) hz.1 hz.2.1 dX6_read_55 (by decide) ?_
            refine lv_aload_n hz.1 hz.2.1 dX6_read_57 rfl (lv_at hl 0 rfl) ?_
            refine rg hz hinX6_read hK hP 0 rfl rfl 13 (by decide) (List.mem_of_getElem? (i := 2) rfl) rfl (v := .int (nI ((sIt (G 9) (I 0) p N).2.1))) rfl dX6_read_58 ?_
            refine lv_isub hz.1 hz.2.1 dX6_read_61 ?_
            have eR : sRd (G 9) (I 0) (G 10) = (false, (sIt (G 9) (I 0) p N).2.1, N) := by rw [hR, sRdL, if_neg c_37, if_neg (fun q => by rw [c_44] at q; cases q.1)]
            exact wr_iret hz hr hlk dX6_read_62 hS ((nset (nset (nset (nset I 1 ((sIt (G 9) (I 0) p N).2.1)) 2 (sEd (G 9) (I 0) ((sIt (G 9) (I 0) p N).2.1) - ((sIt (G 9) (I 0) p N).2.1))) 3 (sKd (G 9) (I 0) ((sIt (G 9) (I 0) p N).2.1))) 4 (sVl (G 9) (I 0) ((sIt (G 9) (I 0) p N).2.1)), G 0, N2, V2)) hP (⟨(fun q => by rw [eR] at q; cases q), (fun _ => by rw [eR]; exact ⟨rfl, rfl⟩), rfl⟩)
          · refine lv_aload_n hz.1 hz.2.1 dX6_read_47 rfl (lv_at hl 0 rfl) ?_
            refine rg hz hinX6_read hK hP 0 rfl rfl 15 (by decide) (List.mem_of_getElem? (i := 3) rfl) rfl (v := .int (nI (sKd (G 9) (I 0) ((sIt (G 9) (I 0) p N).2.1)))) rfl dX6_read_48 ?_
            refine lv_iconst (v := nI 3) hz.1 hz.2.1 dX6_read_51 (by decide) ?_
            refine jeq (tgt := 63) hz dX6_read_52 (by decide) (by omega) (by omega) (fun c_52 => ?_) (fun c_52 => ?_)
            · have hs2 := sNx_in (T := G 9) hs1.2
              have hs3 := sKd_pos (T := G 9) (L := I 0) (p := (sIt (G 9) (I 0) p N).2.1) (by omega)
              have hN3 := hN2 c_44
              have hw2 := sIt_Wf hNw c_44
              refine lv_aload_n hz.1 hz.2.1 dX6_read_63 rfl (lv_at hl 0 rfl) ?_
              refine wrVv (A := wA (mw b k I J G)) (As := []) (rest := []) hz okYT (c6_goOn l_ D k b I J (gset (gset G 10 N2) 11 V2) ((sIt (G 9) (I 0) p N).2.1)  hL hs1.2 hT) (cwV 0 hz.2.2.2.2 gX6_read_X6_goOn rfl rfl rfl (by decide +kernel) ⟨Nat.le_of_ble_eq_true rfl, Nat.le_of_ble_eq_true rfl⟩) hK trivial hP hD hS 0 6 rfl rfl rfl rfl hl.1 rfl (Nat.le_of_ble_eq_true rfl) dX6_read_64 ⟨Nat.zero_le _, Nat.zero_le _⟩ (fun u H locs hp hP hS _ => ?_)
              have hP : va_P D vwCl (mw b k (nset (nset (nset (nset I 1 (sNx (G 9) (I 0) ((sIt (G 9) (I 0) p N).2.1))) 2 (sEd (G 9) (I 0) (sNx (G 9) (I 0) ((sIt (G 9) (I 0) p N).2.1)) - (sNx (G 9) (I 0) ((sIt (G 9) (I 0) p N).2.1)))) 3 (sKd (G 9) (I 0) (sNx (G 9) (I 0) ((sIt (G 9) (I 0) p N).2.1)))) 4 (sVl (G 9) (I 0) (sNx (G 9) (I 0) ((sIt (G 9) (I 0) p N).2.1)))) J (gset (gset G 10 N2) 11 V2)) H := hP
              have hD := mw_D (I' := nset (nset (nset (nset I 1 (sNx (G 9) (I 0) ((sIt (G 9) (I 0) p N).2.1))) 2 (sEd (G 9) (I 0) (sNx (G 9) (I 0) ((sIt (G 9) (I 0) p N).2.1)) - (sNx (G 9) (I 0) ((sIt (G 9) (I 0) p N).2.1)))) 3 (sKd (G 9) (I 0) (sNx (G 9) (I 0) ((sIt (G 9) (I 0) p N).2.1)))) 4 (sVl (G 9) (I 0) (sNx (G 9) (I 0) ((sIt (G 9) (I 0) p N).2.1)))) (J' := J) (G' := gset (gset G 10 N2) 11 V2) hD
              refine lv_iinc (v := nI (it + 1)) (lv' := [(1, .int (nI (it + 1))), (0, .ref (b 0))]) hz.1 hz.2.1 dX6_read_67 hl (k := 1) rfl (nI_add _ 1) (by decide) rfl (fun ls hl => ?_)
              refine lv_goto (tgt := 33) hz.1 hz.2.1 dX6_read_70 (by decide) ?_
              exact ih33 f3 (sNx (G 9) (I 0) (sIt (G 9) (I 0) p N).2.1) (it + 1) N2 V2 (by rw [hR, sRdL, if_neg c_37, if_pos ⟨c_44, c_52⟩, hN3]) (by omega) (hs2.2.1) (by rw [hN3]; exact hw2) (by omega) (by omega) ls H locs hP hS (lv_sub hl [1, 0] rfl)
            · refine lv_bipush (v := (-10)) hz.1 hz.2.1 dX6_read_55 (by decide) ?_
              refine lv_aload_n hz.1 hz.2.1 dX6_read_57 rfl (lv_at hl 0 rfl) ?_
              refine rg hz hinX6_read hK hP 0 rfl rfl 13 (by decide) (List.mem_of_getElem? (i := 2) rfl) rfl (v := .int (nI ((sIt (G 9) (I 0) p N).2.1))) rfl dX6_read_58 ?_
              refine lv_isub hz.1 hz.2.1 dX6_read_61 ?_
              have eR : sRd (G 9) (I 0) (G 10) = (false, (sIt (G 9) (I 0) p N).2.1, N) := by rw [hR, sRdL, if_neg c_37, if_neg (fun q => c_52 q.2)]
              exact wr_iret hz hr hlk dX6_read_62 hS ((nset (nset (nset (nset I 1 ((sIt (G 9) (I 0) p N).2.1)) 2 (sEd (G 9) (I 0) ((sIt (G 9) (I 0) p N).2.1) - ((sIt (G 9) (I 0) p N).2.1))) 3 (sKd (G 9) (I 0) ((sIt (G 9) (I 0) p N).2.1))) 4 (sVl (G 9) (I 0) ((sIt (G 9) (I 0) p N).2.1)), G 0, N2, V2)) hP (⟨(fun q => by rw [eR] at q; cases q), (fun _ => by rw [eR]; exact ⟨rfl, rfl⟩), rfl⟩)
    exact lp_33 _ 300 (sNx (G 9) (I 0) (sR1 (G 9) (I 0) (sAt (G 9) (I 0) 0)).2.1) 1 ((sBegin (G 10) (sR1 (G 9) (I 0) (sAt (G 9) (I 0) 0)).2.2)) V1 (eR0) (by omega) (hq2.2.1) (hw1) (by omega) (Nat.lt_succ_self _) ls _ _ hP hS (lv_sub hl [1, 0] rfl)
  · refine lv_bipush (v := (-10)) hz.1 hz.2.1 dX6_read_19 (by decide) ?_
    refine lv_aload_n hz.1 hz.2.1 dX6_read_21 rfl (lv_at hl 0 rfl) ?_
    refine rg hz hinX6_read hK hP 0 rfl rfl 13 (by decide) (List.mem_of_getElem? (i := 2) rfl) rfl (v := .int (nI ((sR1 (G 9) (I 0) (sAt (G 9) (I 0) 0)).2.1))) rfl dX6_read_22 ?_
    refine lv_isub hz.1 hz.2.1 dX6_read_25 ?_
    have eR : sRd (G 9) (I 0) (G 10) = (false, (sR1 (G 9) (I 0) (sAt (G 9) (I 0) 0)).2.1, G 10) := by rw [sRd, if_neg (by rw [c_16]; decide)]
    exact wr_iret hz hr hlk dX6_read_26 hS ((nset (nset (nset (nset I 1 ((sR1 (G 9) (I 0) (sAt (G 9) (I 0) 0)).2.1)) 2 (sEd (G 9) (I 0) ((sR1 (G 9) (I 0) (sAt (G 9) (I 0) 0)).2.1) - ((sR1 (G 9) (I 0) (sAt (G 9) (I 0) 0)).2.1))) 3 (sKd (G 9) (I 0) ((sR1 (G 9) (I 0) (sAt (G 9) (I 0) 0)).2.1))) 4 (sVl (G 9) (I 0) ((sR1 (G 9) (I 0) (sAt (G 9) (I 0) 0)).2.1)), G 0, N1, V1)) hP (⟨(fun q => by rw [eR] at q; cases q), (fun _ => by rw [eR]; exact ⟨rfl, rfl⟩), rfl⟩)
