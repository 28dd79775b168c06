set_option maxHeartbeats 4000000 in
set_option maxRecDepth 100000 in
theorem c5_surest_none (l_ : Launch) (D : va_G) (k : Nat → ClassId) (a : Nat → Nat) (tS : Nat) (sk sv : Nat → Nat) (C : Nat → Nat) (F : Nat → Nat) (E : Nat → Nat → Nat) (M : Nat → Nat) (kk stp : Nat) (hR : Rb M F E) (hf : Wf M) (h1 : 1 ≤ kk) (h2 : kk ≤ M 0) (h4 : stp ≤ 3) (hb : (sSu (sSuF M kk stp) (M 0 - 1)).1 = none) : Met l_ yX5_surest wsX5_surest ({ frames := 4, cells := 0, slots := 0, locals := 91 }) (va_Pc [.ref (a 0), .int (nI kk), .int (nI stp)] (wH (Am tS sk sv) D k (ho a C ++ (bw a 1 k F E)))) (QcRead (-1)) 0 0 (fun _ => False) := by
  refine my_entry (cc := cX5_surest) (maxL := 7) (ret := some .int) (by decide) rfl (Nat.le_of_ble_eq_true rfl) ?_
  intro p_ e_ s_ m_ bl_ me_ c_ hz hr hlk hB ls hl
  obtain ⟨hP, hK, hD0, hy⟩ := hB
  have hD := wA.self hD0
  have hS : va_S (wA (ho a C ++ (bw a 1 k F E))) s_.heap s_.heap [] := va_S.rf
  have hl : lv_has ls 7 [(0, .ref (a 0)), (1, .int (nI kk)), (2, .int (nI stp))] := hl
  have f0 := hf.n2
  have f1 := hf.n9
  have f2 := hf.fr
  have f3 := hf.gd
  have f4 := hf.pc
  have f5 := hf.wc
  have e0 : F 0 = M 0 := hR.1.1
  have e1 : F 1 = M 1 := hR.1.2.1
  have e2 : F 2 = M 2 := hR.1.2.2.1
  have e3 : F 3 = M 19 := hR.1.2.2.2.1
  have e4 : F 4 = M 32 := hR.1.2.2.2.2
  have d2 := sCh_pos (M 0) (by omega) kk h2
  refine lv_iload_n hz.1 hz.2.1 dX5_surest_0 rfl (lv_at hl 1 rfl) ?_
  refine lv_iconst (v := nI 1) hz.1 hz.2.1 dX5_surest_1 (by decide) ?_
  refine lv_aload_n hz.1 hz.2.1 dX5_surest_2 rfl (lv_at hl 0 rfl) ?_
  refine rg (T := TX5) (N := 11) hz hinX5_surest_X5 hK hP 0 rfl rfl 0 (by decide) (List.mem_of_getElem? (i := 1) rfl) rfl (v := .ref (a 1)) rfl dX5_surest_3 ?_
  refine rg (T := TX0) (N := 12) hz hinX5_surest_X0 hK hP 1 rfl rfl 0 (by decide) (List.mem_of_getElem? (i := 2) rfl) rfl (v := .int (nI (F 0))) rfl dX5_surest_6 ?_
  refine toe (z := nI (M 0)) (by rw [hR.1.1]) ?_
  refine rdS (As := [.int (nI kk), .int (nI 1), .int (nI (M 0))]) (rest := []) hz (c5_within l_ (nI kk) 1 (M 0) ) rfl (va_cwS 3 hz.2.2.2.2 gX5_surest_X5_within rfl rfl rfl (by decide +kernel) ⟨Nat.le_of_ble_eq_true rfl, Nat.le_of_ble_eq_true rfl⟩) rfl hl.1 rfl (Nat.le_of_ble_eq_true rfl) dX5_surest_9 ⟨Nat.zero_le _, Nat.zero_le _⟩ ?_
  refine zeq (tgt := 23) hz dX5_surest_12 (by decide) (fun c_12 => ?_) (fun c_12 => ?_)
  · exact absurd ((wIn_ok (by omega) (by omega) (by omega)).symm.trans c_12) (by decide)
  · refine lv_iload_n hz.1 hz.2.1 dX5_surest_15 rfl (lv_at hl 2 rfl) ?_
    refine lv_iconst (v := nI 4) hz.1 hz.2.1 dX5_surest_16 (by decide) ?_
    refine rdS (As := [.int (nI stp), .int (nI 4)]) (rest := []) hz (c5_inRow l_ (nI stp) 4 3 (by omega) (by omega)) rfl (va_cwS 2 hz.2.2.2.2 gX5_surest_X5_inRow rfl rfl rfl (by decide +kernel) ⟨Nat.le_of_ble_eq_true rfl, Nat.le_of_ble_eq_true rfl⟩) rfl hl.1 rfl (Nat.le_of_ble_eq_true rfl) dX5_surest_17 ⟨Nat.zero_le _, Nat.zero_le _⟩ ?_
    refine zne (tgt := 30) hz dX5_surest_20 (by decide) (fun c_20 => ?_) (fun c_20 => ?_)
    · refine lv_iconst (v := (-1)) hz.1 hz.2.1 dX5_surest_30 (by decide) ?_
      refine toe (z := oI none) (rfl) ?_
      refine lv_istore_n (lv' := [(3, .int (oI none)), (0, .ref (a 0)), (1, .int (nI kk)), (2, .int (nI stp))]) hz.1 hz.2.1 dX5_surest_31 rfl hl (by decide) rfl (fun ls hl => ?_)
      refine lv_iconst (v := (-1)) hz.1 hz.2.1 dX5_surest_32 (by decide) ?_
      refine toe (z := oI none) (rfl) ?_
      refine lv_istore (lv' := [(4, .int (oI none)), (3, .int (oI none)), (0, .ref (a 0)), (1, .int (nI kk)), (2, .int (nI stp))]) hz.1 hz.2.1 dX5_surest_33 hl (by decide) rfl (fun ls hl => ?_)
      refine lv_iconst (v := nI 0) hz.1 hz.2.1 dX5_surest_35 (by decide) ?_
      refine lv_istore (lv' := [(5, .int (nI 0)), (4, .int (oI none)), (3, .int (oI none)), (0, .ref (a 0)), (1, .int (nI kk)), (2, .int (nI stp))]) hz.1 hz.2.1 dX5_surest_36 hl (by decide) rfl (fun ls hl => ?_)
      have lp_38 : ∀ (fu : Nat) (w : Nat), (w ≤ M 0 - 1) → M 0 - 1 - w < fu → ∀ ls : Array Slot, lv_has ls 7 [(0, .ref (a 0)), (1, .int (nI kk)), (2, .int (nI stp)), (3, .int (oI ((sSu (sSuF M kk stp) w).1))), (4, .int (oI ((sSu (sSuF M kk stp) w).2))), (5, .int (nI w))] → W p_ l_ e_ ({ frames := 4, cells := 0, slots := 0, locals := 91 }) s_ m_ [.ref (a 0), .int (nI kk), .int (nI stp)].toArray bl_ me_ c_ s_.heap [] 0 0 (MQ bl_ (QcRead (-1)) [.ref (a 0), .int (nI kk), .int (nI stp)].toArray s_ 0 0 (fun _ => False)) (F0 m_ 38 ls []) := by
        intro fu
        induction fu with
        | zero => intro w hw hm; exact absurd hm (Nat.not_lt_zero _)
        | succ fu ih38 =>
          intro w hw hm ls hl
          refine lv_iload hz.1 hz.2.1 dX5_surest_38 (lv_at hl 5 rfl) ?_
          refine lv_aload_n hz.1 hz.2.1 dX5_surest_40 rfl (lv_at hl 0 rfl) ?_
          refine rg (T := TX5) (N := 11) hz hinX5_surest_X5 hK hP 0 rfl rfl 0 (by decide) (List.mem_of_getElem? (i := 1) rfl) rfl (v := .ref (a 1)) rfl dX5_surest_41 ?_
          refine rdV (A := wA (ho a C ++ (bw a 1 k F E))) (As := []) (rest := [.int (nI w)]) hz (okAm tS sk sv) (c0_wireCount l_ D k a 1 tS sk sv F E M  hR hf) (cwV 0 hz.2.2.2.2 gX5_surest_X0_wireCount rfl rfl rfl (by decide +kernel) ⟨Nat.le_of_ble_eq_true rfl, Nat.le_of_ble_eq_true rfl⟩) hK hy (hP.sub (ws' := bw a 1 k F E) [1, 2, 3, 4, 5, 6, 7, 8] rfl) (hD.sub (ws' := bw a 1 k F E) [1, 2, 3, 4, 5, 6, 7, 8] (by decide) rfl) hS 0 0 rfl rfl rfl rfl hl.1 rfl (Nat.le_of_ble_eq_true rfl) dX5_surest_44 ⟨Nat.zero_le _, Nat.zero_le _⟩ ?_
          refine jge (tgt := 96) hz dX5_surest_47 (by decide) (by omega) (by omega) (fun c_47 => ?_) (fun c_47 => ?_)
          · obtain rfl : w = M 0 - 1 := by omega
            refine lv_iload_n hz.1 hz.2.1 dX5_surest_96 rfl (lv_at hl 3 rfl) ?_
            refine lv_iconst (v := (-1)) hz.1 hz.2.1 dX5_surest_97 (by decide) ?_
            refine lv_icmp_eq (tgt := 123) hz.1 hz.2.1 dX5_surest_98 (by decide) (fun c_98 => ?_) (fun c_98 => ?_)
            · refine lv_iload_n hz.1 hz.2.1 dX5_surest_123 rfl (lv_at hl 3 rfl) ?_
              exact rd_iret hz hr hlk dX5_surest_124 (by rw [hb]; rfl)
            · exact absurd (show oI (sSu (sSuF M kk stp) (M 0 - 1)).1 = -1 by rw [hb]; rfl) c_98
          · refine lv_aload_n hz.1 hz.2.1 dX5_surest_50 rfl (lv_at hl 0 rfl) ?_
            refine rg (T := TX5) (N := 11) hz hinX5_surest_X5 hK hP 0 rfl rfl 0 (by decide) (List.mem_of_getElem? (i := 1) rfl) rfl (v := .ref (a 1)) rfl dX5_surest_51 ?_
            refine lv_iload hz.1 hz.2.1 dX5_surest_54 (lv_at hl 5 rfl) ?_
            refine rdV (A := wA (ho a C ++ (bw a 1 k F E))) (As := [.int (nI w)]) (rest := []) hz (okAm tS sk sv) (c0_isCut l_ D k a 1 tS sk sv F E M w hR hf (by omega)) (cwV 1 hz.2.2.2.2 gX5_surest_X0_isCut rfl rfl rfl (by decide +kernel) ⟨Nat.le_of_ble_eq_true rfl, Nat.le_of_ble_eq_true rfl⟩) hK hy (hP.sub (ws' := bw a 1 k F E) [1, 2, 3, 4, 5, 6, 7, 8] rfl) (hD.sub (ws' := bw a 1 k F E) [1, 2, 3, 4, 5, 6, 7, 8] (by decide) rfl) hS 0 0 rfl rfl rfl rfl hl.1 rfl (Nat.le_of_ble_eq_true rfl) dX5_surest_56 ⟨Nat.zero_le _, Nat.zero_le _⟩ ?_
            refine zeq (tgt := 66) hz dX5_surest_59 (by decide) (fun c_59 => ?_) (fun c_59 => ?_)
            · refine lv_aload_n hz.1 hz.2.1 dX5_surest_66 rfl (lv_at hl 0 rfl) ?_
              refine lv_iload_n hz.1 hz.2.1 dX5_surest_67 rfl (lv_at hl 1 rfl) ?_
              refine lv_iload hz.1 hz.2.1 dX5_surest_68 (lv_at hl 5 rfl) ?_
              refine lv_iload_n hz.1 hz.2.1 dX5_surest_70 rfl (lv_at hl 2 rfl) ?_
              refine rdV (A := wA (ho a C ++ (bw a 1 k F E))) (As := [.int (nI kk), .int (nI w), .int (nI stp)]) (rest := []) hz (okAm tS sk sv) (c5_deafLots l_ D k a tS sk sv C F E M kk w stp hR hf (by omega) (by omega) (by omega)) (cwV 3 hz.2.2.2.2 gX5_surest_X5_deafLots rfl rfl rfl (by decide +kernel) ⟨Nat.le_of_ble_eq_true rfl, Nat.le_of_ble_eq_true rfl⟩) hK hy hP hD hS 0 5 rfl rfl rfl rfl hl.1 rfl (Nat.le_of_ble_eq_true rfl) dX5_surest_71 ⟨Nat.zero_le _, Nat.zero_le _⟩ ?_
              refine toe (z := oI (sSuF M kk stp w)) (by simp only [sSuF, if_neg (of_decide_eq_false c_59)]; rfl) ?_
              refine lv_istore (lv' := [(6, .int (oI (sSuF M kk stp w))), (0, .ref (a 0)), (1, .int (nI kk)), (2, .int (nI stp)), (3, .int (oI ((sSu (sSuF M kk stp) w).1))), (4, .int (oI ((sSu (sSuF M kk stp) w).2))), (5, .int (nI w))]) hz.1 hz.2.1 dX5_surest_74 hl (by decide) rfl (fun ls hl => ?_)
              refine lv_iload hz.1 hz.2.1 dX5_surest_76 (lv_at hl 0 rfl) ?_
              refine lv_iload hz.1 hz.2.1 dX5_surest_78 (lv_at hl 5 rfl) ?_
              refine lv_icmp_le (tgt := 90) hz.1 hz.2.1 dX5_surest_80 (by decide) (fun c_80 => ?_) (fun c_80 => ?_)
              · have cl : oLt (sSu (sSuF M kk stp) w).2 ((sSuF M kk stp) w) = false := (oI_le (fun j hj => by have := sSuF_lt hf (by omega) hj; omega) (fun j hj => by have := sSu_lt (fun w j hj => sSuF_lt hf (by omega) hj) w j hj; omega)).mp c_80
                have es : sSu (sSuF M kk stp) (w + 1) = sSu (sSuF M kk stp) w := by rw [sSu, if_neg (by rw [cl]; decide)]
                rw [← es] at hl
                refine lv_iinc (v := nI (w + 1)) (lv' := [(5, .int (nI (w + 1))), (6, .int (oI (sSuF M kk stp w))), (0, .ref (a 0)), (1, .int (nI kk)), (2, .int (nI stp)), (3, .int (oI ((sSu (sSuF M kk stp) (w + 1)).1))), (4, .int (oI ((sSu (sSuF M kk stp) (w + 1)).2)))]) hz.1 hz.2.1 dX5_surest_90 hl (k := 6) rfl (nI_add _ 1) (by decide) rfl (fun ls hl => ?_)
                refine lv_goto (tgt := 38) hz.1 hz.2.1 dX5_surest_93 (by decide) ?_
                exact ih38 (w + 1) (by omega) (by omega) ls (lv_sub hl [2, 3, 4, 5, 6, 0] rfl)
              · have cl : oLt (sSu (sSuF M kk stp) w).2 ((sSuF M kk stp) w) = true := by rw [← Bool.not_eq_false]; exact fun hq => c_80 ((oI_le (fun j hj => by have := sSuF_lt hf (by omega) hj; omega) (fun j hj => by have := sSu_lt (fun w j hj => sSuF_lt hf (by omega) hj) w j hj; omega)).mpr hq)
                refine lv_iload hz.1 hz.2.1 dX5_surest_83 (lv_at hl 6 rfl) ?_
                refine toe (z := oI ((sSu (sSuF M kk stp) (w + 1)).1)) (by rw [sSu, if_pos cl]; rfl) ?_
                refine lv_istore_n (lv' := [(3, .int (oI ((sSu (sSuF M kk stp) (w + 1)).1))), (6, .int (oI (sSuF M kk stp w))), (0, .ref (a 0)), (1, .int (nI kk)), (2, .int (nI stp)), (4, .int (oI ((sSu (sSuF M kk stp) w).2))), (5, .int (nI w))]) hz.1 hz.2.1 dX5_surest_85 rfl hl (by decide) rfl (fun ls hl => ?_)
                refine lv_iload hz.1 hz.2.1 dX5_surest_86 (lv_at hl 1 rfl) ?_
                refine toe (z := oI ((sSu (sSuF M kk stp) (w + 1)).2)) (by rw [sSu, if_pos cl]) ?_
                refine lv_istore (lv' := [(4, .int (oI ((sSu (sSuF M kk stp) (w + 1)).2))), (3, .int (oI ((sSu (sSuF M kk stp) (w + 1)).1))), (6, .int (oI (sSuF M kk stp w))), (0, .ref (a 0)), (1, .int (nI kk)), (2, .int (nI stp)), (5, .int (nI w))]) hz.1 hz.2.1 dX5_surest_88 hl (by decide) rfl (fun ls hl => ?_)
                refine lv_iinc (v := nI (w + 1)) (lv' := [(5, .int (nI (w + 1))), (4, .int (oI ((sSu (sSuF M kk stp) (w + 1)).2))), (3, .int (oI ((sSu (sSuF M kk stp) (w + 1)).1))), (6, .int (oI (sSuF M kk stp w))), (0, .ref (a 0)), (1, .int (nI kk)), (2, .int (nI stp))]) hz.1 hz.2.1 dX5_surest_90 hl (k := 6) rfl (nI_add _ 1) (by decide) rfl (fun ls hl => ?_)
                refine lv_goto (tgt := 38) hz.1 hz.2.1 dX5_surest_93 (by decide) ?_
                exact ih38 (w + 1) (by omega) (by omega) ls (lv_sub hl [4, 5, 6, 2, 1, 0] rfl)
            · refine lv_iconst (v := (-1)) hz.1 hz.2.1 dX5_surest_62 (by decide) ?_
              refine lv_goto (tgt := 74) hz.1 hz.2.1 dX5_surest_63 (by decide) ?_
              refine toe (z := oI (sSuF M kk stp w)) (by simp only [sSuF, if_pos (of_decide_eq_true c_59)]; rfl) ?_
              refine lv_istore (lv' := [(6, .int (oI (sSuF M kk stp w))), (0, .ref (a 0)), (1, .int (nI kk)), (2, .int (nI stp)), (3, .int (oI ((sSu (sSuF M kk stp) w).1))), (4, .int (oI ((sSu (sSuF M kk stp) w).2))), (5, .int (nI w))]) hz.1 hz.2.1 dX5_surest_74 hl (by decide) rfl (fun ls hl => ?_)
              refine lv_iload hz.1 hz.2.1 dX5_surest_76 (lv_at hl 0 rfl) ?_
              refine lv_iload hz.1 hz.2.1 dX5_surest_78 (lv_at hl 5 rfl) ?_
              refine lv_icmp_le (tgt := 90) hz.1 hz.2.1 dX5_surest_80 (by decide) (fun c_80 => ?_) (fun c_80 => ?_)
              · have cl : oLt (sSu (sSuF M kk stp) w).2 ((sSuF M kk stp) w) = false := (oI_le (fun j hj => by have := sSuF_lt hf (by omega) hj; omega) (fun j hj => by have := sSu_lt (fun w j hj => sSuF_lt hf (by omega) hj) w j hj; omega)).mp c_80
                have es : sSu (sSuF M kk stp) (w + 1) = sSu (sSuF M kk stp) w := by rw [sSu, if_neg (by rw [cl]; decide)]
                rw [← es] at hl
                refine lv_iinc (v := nI (w + 1)) (lv' := [(5, .int (nI (w + 1))), (6, .int (oI (sSuF M kk stp w))), (0, .ref (a 0)), (1, .int (nI kk)), (2, .int (nI stp)), (3, .int (oI ((sSu (sSuF M kk stp) (w + 1)).1))), (4, .int (oI ((sSu (sSuF M kk stp) (w + 1)).2)))]) hz.1 hz.2.1 dX5_surest_90 hl (k := 6) rfl (nI_add _ 1) (by decide) rfl (fun ls hl => ?_)
                refine lv_goto (tgt := 38) hz.1 hz.2.1 dX5_surest_93 (by decide) ?_
                exact ih38 (w + 1) (by omega) (by omega) ls (lv_sub hl [2, 3, 4, 5, 6, 0] rfl)
              · have cl : oLt (sSu (sSuF M kk stp) w).2 ((sSuF M kk stp) w) = true := by rw [← Bool.not_eq_false]; exact fun hq => c_80 ((oI_le (fun j hj => by have := sSuF_lt hf (by omega) hj; omega) (fun j hj => by have := sSu_lt (fun w j hj => sSuF_lt hf (by omega) hj) w j hj; omega)).mpr hq)
                refine lv_iload hz.1 hz.2.1 dX5_surest_83 (lv_at hl 6 rfl) ?_
                refine toe (z := oI ((sSu (sSuF M kk stp) (w + 1)).1)) (by rw [sSu, if_pos cl]; rfl) ?_
                refine lv_istore_n (lv' := [(3, .int (oI ((sSu (sSuF M kk stp) (w + 1)).1))), (6, .int (oI (sSuF M kk stp w))), (0, .ref (a 0)), (1, .int (nI kk)), (2, .int (nI stp)), (4, .int (oI ((sSu (sSuF M kk stp) w).2))), (5, .int (nI w))]) hz.1 hz.2.1 dX5_surest_85 rfl hl (by decide) rfl (fun ls hl => ?_)
                refine lv_iload hz.1 hz.2.1 dX5_surest_86 (lv_at hl 1 rfl) ?_
                refine toe (z := oI ((sSu (sSuF M kk stp) (w + 1)).2)) (by rw [sSu, if_pos cl]) ?_
                refine lv_istore (lv' := [(4, .int (oI ((sSu (sSuF M kk stp) (w + 1)).2))), (3, .int (oI ((sSu (sSuF M kk stp) (w + 1)).1))), (6, .int (oI (sSuF M kk stp w))), (0, .ref (a 0)), (1, .int (nI kk)), (2, .int (nI stp)), (5, .int (nI w))]) hz.1 hz.2.1 dX5_surest_88 hl (by decide) rfl (fun ls hl => ?_)
                refine lv_iinc (v := nI (w + 1)) (lv' := [(5, .int (nI (w + 1))), (4, .int (oI ((sSu (sSuF M kk stp) (w + 1)).2))), (3, .int (oI ((sSu (sSuF M kk stp) (w + 1)).1))), (6, .int (oI (sSuF M kk stp w))), (0, .ref (a 0)), (1, .int (nI kk)), (2, .int (nI stp))]) hz.1 hz.2.1 dX5_surest_90 hl (k := 6) rfl (nI_add _ 1) (by decide) rfl (fun ls hl => ?_)
                refine lv_goto (tgt := 38) hz.1 hz.2.1 dX5_surest_93 (by decide) ?_
                exact ih38 (w + 1) (by omega) (by omega) ls (lv_sub hl [4, 5, 6, 2, 1, 0] rfl)
      exact lp_38 _ 0 (by omega) (Nat.lt_succ_self _) ls (lv_sub hl [3, 4, 5, 2, 1, 0] rfl)
    · exact absurd ((wIn_ok (by omega) (by omega) (by omega)).symm.trans c_20) (by decide)

set_option maxHeartbeats 4000000 in
set_option maxRecDepth 100000 in
theorem c5_surest_some (l_ : Launch) (D : va_G) (k : Nat → ClassId) (a : Nat → Nat) (tS : Nat) (sk sv : Nat → Nat) (C : Nat → Nat) (F : Nat → Nat) (E : Nat → Nat → Nat) (Q : Nat → Nat) (M : Nat → Nat) (kk stp : Nat) (jj dd : Nat) (hR : Rb M F E) (hf : Wf M) (h1 : 1 ≤ kk) (h2 : kk ≤ M 0) (h4 : stp ≤ 3) (hb : sSu (sSuF M kk stp) (M 0 - 1) = (some jj, some dd)) (hjj : jj < 10) (hdd : dd < 1000) : Met l_ yX5_surest wsX5_surest ({ frames := 4, cells := 0, slots := 0, locals := 91 }) (va_Pc [.ref (a 0), .int (nI kk), .int (nI stp)] (wH (Am tS sk sv) D k (ho a C ++ (bw a 1 k F E ++ (qw a Q))))) (va_Qi (fun (r : Int32) (u : Unit) => r = nI jj) (fun (u : Unit) (t_ : State) => va_P D vwCl ((fun (_ : Unit) => ho a C ++ (bw a 1 k F E ++ (qw a (nset (nset Q 0 (dd / Nat.gcd dd (sCh (M 0) kk))) 1 ((sCh (M 0) kk) / Nat.gcd dd (sCh (M 0) kk)))))) u) t_.heap) (wA (ho a C ++ (bw a 1 k F E ++ (qw a Q))))) 0 0 (wA (ho a C ++ (bw a 1 k F E ++ (qw a Q)))) := by
  refine my_entry (cc := cX5_surest) (maxL := 7) (ret := some .int) (by decide) rfl (Nat.le_of_ble_eq_true rfl) ?_
  intro p_ e_ s_ m_ bl_ me_ c_ hz hr hlk hB ls hl
  obtain ⟨hP, hK, hD0, hy⟩ := hB
  have hD := wA.self hD0
  have hS : va_S (wA (ho a C ++ (bw a 1 k F E ++ (qw a Q)))) s_.heap s_.heap [] := va_S.rf
  have hl : lv_has ls 7 [(0, .ref (a 0)), (1, .int (nI kk)), (2, .int (nI stp))] := hl
  have f0 := hf.n2
  have f1 := hf.n9
  have f2 := hf.fr
  have f3 := hf.gd
  have f4 := hf.pc
  have f5 := hf.wc
  have e0 : F 0 = M 0 := hR.1.1
  have e1 : F 1 = M 1 := hR.1.2.1
  have e2 : F 2 = M 2 := hR.1.2.2.1
  have e3 : F 3 = M 19 := hR.1.2.2.2.1
  have e4 : F 4 = M 32 := hR.1.2.2.2.2
  have d2 := sCh_pos (M 0) (by omega) kk h2
  refine lv_iload_n hz.1 hz.2.1 dX5_surest_0 rfl (lv_at hl 1 rfl) ?_
  refine lv_iconst (v := nI 1) hz.1 hz.2.1 dX5_surest_1 (by decide) ?_
  refine lv_aload_n hz.1 hz.2.1 dX5_surest_2 rfl (lv_at hl 0 rfl) ?_
  refine rg (T := TX5) (N := 11) hz hinX5_surest_X5 hK hP 0 rfl rfl 0 (by decide) (List.mem_of_getElem? (i := 1) rfl) rfl (v := .ref (a 1)) rfl dX5_surest_3 ?_
  refine rg (T := TX0) (N := 12) hz hinX5_surest_X0 hK hP 1 rfl rfl 0 (by decide) (List.mem_of_getElem? (i := 2) rfl) rfl (v := .int (nI (F 0))) rfl dX5_surest_6 ?_
  refine toe (z := nI (M 0)) (by rw [hR.1.1]) ?_
  refine rdS (As := [.int (nI kk), .int (nI 1), .int (nI (M 0))]) (rest := []) hz (c5_within l_ (nI kk) 1 (M 0) ) rfl (va_cwS 3 hz.2.2.2.2 gX5_surest_X5_within rfl rfl rfl (by decide +kernel) ⟨Nat.le_of_ble_eq_true rfl, Nat.le_of_ble_eq_true rfl⟩) rfl hl.1 rfl (Nat.le_of_ble_eq_true rfl) dX5_surest_9 ⟨Nat.zero_le _, Nat.zero_le _⟩ ?_
  refine zeq (tgt := 23) hz dX5_surest_12 (by decide) (fun c_12 => ?_) (fun c_12 => ?_)
  · exact absurd ((wIn_ok (by omega) (by omega) (by omega)).symm.trans c_12) (by decide)
  · refine lv_iload_n hz.1 hz.2.1 dX5_surest_15 rfl (lv_at hl 2 rfl) ?_
    refine lv_iconst (v := nI 4) hz.1 hz.2.1 dX5_surest_16 (by decide) ?_
    refine rdS (As := [.int (nI stp), .int (nI 4)]) (rest := []) hz (c5_inRow l_ (nI stp) 4 3 (by omega) (by omega)) rfl (va_cwS 2 hz.2.2.2.2 gX5_surest_X5_inRow rfl rfl rfl (by decide +kernel) ⟨Nat.le_of_ble_eq_true rfl, Nat.le_of_ble_eq_true rfl⟩) rfl hl.1 rfl (Nat.le_of_ble_eq_true rfl) dX5_surest_17 ⟨Nat.zero_le _, Nat.zero_le _⟩ ?_
    refine zne (tgt := 30) hz dX5_surest_20 (by decide) (fun c_20 => ?_) (fun c_20 => ?_)
    · refine lv_iconst (v := (-1)) hz.1 hz.2.1 dX5_surest_30 (by decide) ?_
      refine toe (z := oI none) (rfl) ?_
      refine lv_istore_n (lv' := [(3, .int (oI none)), (0, .ref (a 0)), (1, .int (nI kk)), (2, .int (nI stp))]) hz.1 hz.2.1 dX5_surest_31 rfl hl (by decide) rfl (fun ls hl => ?_)
      refine lv_iconst (v := (-1)) hz.1 hz.2.1 dX5_surest_32 (by decide) ?_
      refine toe (z := oI none) (rfl) ?_
      refine lv_istore (lv' := [(4, .int (oI none)), (3, .int (oI none)), (0, .ref (a 0)), (1, .int (nI kk)), (2, .int (nI stp))]) hz.1 hz.2.1 dX5_surest_33 hl (by decide) rfl (fun ls hl => ?_)
      refine lv_iconst (v := nI 0) hz.1 hz.2.1 dX5_surest_35 (by decide) ?_
      refine lv_istore (lv' := [(5, .int (nI 0)), (4, .int (oI none)), (3, .int (oI none)), (0, .ref (a 0)), (1, .int (nI kk)), (2, .int (nI stp))]) hz.1 hz.2.1 dX5_surest_36 hl (by decide) rfl (fun ls hl => ?_)
      have lp_38 : ∀ (fu : Nat) (w : Nat), (w ≤ M 0 - 1) → M 0 - 1 - w < fu → ∀ ls : Array Slot, lv_has ls 7 [(0, .ref (a 0)), (1, .int (nI kk)), (2, .int (nI stp)), (3, .int (oI ((sSu (sSuF M kk stp) w).1))), (4, .int (oI ((sSu (sSuF M kk stp) w).2))), (5, .int (nI w))] → W p_ l_ e_ ({ frames := 4, cells := 0, slots := 0, locals := 91 }) s_ m_ [.ref (a 0), .int (nI kk), .int (nI stp)].toArray bl_ me_ c_ s_.heap [] 0 0 (MQ bl_ (va_Qi (fun (r : Int32) (u : Unit) => r = nI jj) (fun (u : Unit) (t_ : State) => va_P D vwCl ((fun (_ : Unit) => ho a C ++ (bw a 1 k F E ++ (qw a (nset (nset Q 0 (dd / Nat.gcd dd (sCh (M 0) kk))) 1 ((sCh (M 0) kk) / Nat.gcd dd (sCh (M 0) kk)))))) u) t_.heap) (wA (ho a C ++ (bw a 1 k F E ++ (qw a Q))))) [.ref (a 0), .int (nI kk), .int (nI stp)].toArray s_ 0 0 (wA (ho a C ++ (bw a 1 k F E ++ (qw a Q))))) (F0 m_ 38 ls []) := by
        intro fu
        induction fu with
        | zero => intro w hw hm; exact absurd hm (Nat.not_lt_zero _)
        | succ fu ih38 =>
          intro w hw hm ls hl
          refine lv_iload hz.1 hz.2.1 dX5_surest_38 (lv_at hl 5 rfl) ?_
          refine lv_aload_n hz.1 hz.2.1 dX5_surest_40 rfl (lv_at hl 0 rfl) ?_
          refine rg (T := TX5) (N := 11) hz hinX5_surest_X5 hK hP 0 rfl rfl 0 (by decide) (List.mem_of_getElem? (i := 1) rfl) rfl (v := .ref (a 1)) rfl dX5_surest_41 ?_
          refine rdV (A := wA (ho a C ++ (bw a 1 k F E ++ (qw a Q)))) (As := []) (rest := [.int (nI w)]) hz (okAm tS sk sv) (c0_wireCount l_ D k a 1 tS sk sv F E M  hR hf) (cwV 0 hz.2.2.2.2 gX5_surest_X0_wireCount rfl rfl rfl (by decide +kernel) ⟨Nat.le_of_ble_eq_true rfl, Nat.le_of_ble_eq_true rfl⟩) hK hy (hP.sub (ws' := bw a 1 k F E) [1, 2, 3, 4, 5, 6, 7, 8] rfl) (hD.sub (ws' := bw a 1 k F E) [1, 2, 3, 4, 5, 6, 7, 8] (by decide) rfl) hS 0 0 rfl rfl rfl rfl hl.1 rfl (Nat.le_of_ble_eq_true rfl) dX5_surest_44 ⟨Nat.zero_le _, Nat.zero_le _⟩ ?_
          refine jge (tgt := 96) hz dX5_surest_47 (by decide) (by omega) (by omega) (fun c_47 => ?_) (fun c_47 => ?_)
          · obtain rfl : w = M 0 - 1 := by omega
            refine lv_iload_n hz.1 hz.2.1 dX5_surest_96 rfl (lv_at hl 3 rfl) ?_
            refine lv_iconst (v := (-1)) hz.1 hz.2.1 dX5_surest_97 (by decide) ?_
            refine lv_icmp_eq (tgt := 123) hz.1 hz.2.1 dX5_surest_98 (by decide) (fun c_98 => ?_) (fun c_98 => ?_)
            · exfalso; rw [hb] at c_98; exact absurd ((oI_none (fun j hj => by cases hj; omega)).mp c_98) (by simp)
            · rw [hb] at hl
              have hl : lv_has ls 7 [(0, .ref (a 0)), (1, .int (nI kk)), (2, .int (nI stp)), (3, .int (nI jj)), (4, .int (nI dd)), (5, .int (nI (M 0 - 1)))] := hl
              refine lv_aload_n hz.1 hz.2.1 dX5_surest_101 rfl (lv_at hl 0 rfl) ?_
              refine rg (T := TX5) (N := 11) hz hinX5_surest_X5 hK hP 0 rfl rfl 7 (by decide) (List.mem_of_getElem? (i := 3) rfl) rfl (v := .ref (a 53)) rfl dX5_surest_102 ?_
              refine lv_iload hz.1 hz.2.1 dX5_surest_105 (lv_at hl 4 rfl) ?_
              refine lv_i2l (v := lN dd) hz.1 hz.2.1 dX5_surest_107 (nI_l (by omega)) ?_
              refine lv_aload_n hz.1 hz.2.1 dX5_surest_108 rfl (lv_at hl 0 rfl) ?_
              refine rg (T := TX5) (N := 11) hz hinX5_surest_X5 hK hP 0 rfl rfl 0 (by decide) (List.mem_of_getElem? (i := 1) rfl) rfl (v := .ref (a 1)) rfl dX5_surest_109 ?_
              refine rg (T := TX0) (N := 12) hz hinX5_surest_X0 hK hP 1 rfl rfl 0 (by decide) (List.mem_of_getElem? (i := 2) rfl) rfl (v := .int (nI (F 0))) rfl dX5_surest_112 ?_
              refine toe (z := nI (M 0)) (by rw [hR.1.1]) ?_
              refine lv_iload_n hz.1 hz.2.1 dX5_surest_115 rfl (lv_at hl 1 rfl) ?_
              refine rdS (As := [.int (nI (M 0)), .int (nI kk)]) (rest := [.long (lN dd), .ref (a 53)]) hz (c5_choose l_ (M 0) kk (by omega) (by omega)) rfl (va_cwS 2 hz.2.2.2.2 gX5_surest_X5_choose rfl rfl rfl (by decide +kernel) ⟨Nat.le_of_ble_eq_true rfl, Nat.le_of_ble_eq_true rfl⟩) rfl hl.1 rfl (Nat.le_of_ble_eq_true rfl) dX5_surest_116 ⟨Nat.zero_le _, Nat.zero_le _⟩ ?_
              refine lv_i2l (v := lN (sCh (M 0) kk)) hz.1 hz.2.1 dX5_surest_119 (nI_l (by omega)) ?_
              refine wrVv (A := wA (ho a C ++ (bw a 1 k F E ++ (qw a Q)))) (As := [.long (lN dd), .long (lN (sCh (M 0) kk))]) (rest := []) hz (okAm tS sk sv) (c2_become l_ D k a tS sk sv Q  dd (sCh (M 0) kk) (by omega) (by omega) (by omega)) (cwV 2 hz.2.2.2.2 gX5_surest_X2_become rfl rfl rfl (by decide +kernel) ⟨Nat.le_of_ble_eq_true rfl, Nat.le_of_ble_eq_true rfl⟩) hK hy (hP.sub (ws' := qw a Q) [9] rfl) (hD.sub (ws' := qw a Q) [9] (by decide) rfl) hS 0 2 rfl rfl rfl rfl hl.1 rfl (Nat.le_of_ble_eq_true rfl) dX5_surest_120 ⟨Nat.zero_le _, Nat.zero_le _⟩ (fun u H1 locs hp hP1 hS hfr => ?_)
              have hP1 : va_P D vwCl (qw a (nset (nset Q 0 (dd / Nat.gcd dd (sCh (M 0) kk))) 1 ((sCh (M 0) kk) / Nat.gcd dd (sCh (M 0) kk)))) H1 := hP1
              have hP : va_P D vwCl (ho a C ++ (bw a 1 k F E ++ (qw a (nset (nset Q 0 (dd / Nat.gcd dd (sCh (M 0) kk))) 1 ((sCh (M 0) kk) / Nat.gcd dd (sCh (M 0) kk)))))) H1 := wJn (w1 := qw a (nset (nset Q 0 (dd / Nat.gcd dd (sCh (M 0) kk))) 1 ((sCh (M 0) kk) / Nat.gcd dd (sCh (M 0) kk)))) (wc := qw a Q) hP hD [9] rfl rfl hP1 hfr
              generalize H1 = H at hP hS ⊢
              have hD : va_D (wA (ho a C ++ (bw a 1 k F E ++ (qw a Q)))) (ho a C ++ (bw a 1 k F E ++ (qw a (nset (nset Q 0 (dd / Nat.gcd dd (sCh (M 0) kk))) 1 ((sCh (M 0) kk) / Nat.gcd dd (sCh (M 0) kk)))))) := hD.same rfl
              refine lv_iload_n hz.1 hz.2.1 dX5_surest_123 rfl (lv_at hl 3 rfl) ?_
              exact wr_iret hz hr hlk dX5_surest_124 hS (()) hP (rfl)
          · refine lv_aload_n hz.1 hz.2.1 dX5_surest_50 rfl (lv_at hl 0 rfl) ?_
            refine rg (T := TX5) (N := 11) hz hinX5_surest_X5 hK hP 0 rfl rfl 0 (by decide) (List.mem_of_getElem? (i := 1) rfl) rfl (v := .ref (a 1)) rfl dX5_surest_51 ?_
            refine lv_iload hz.1 hz.2.1 dX5_surest_54 (lv_at hl 5 rfl) ?_
            refine rdV (A := wA (ho a C ++ (bw a 1 k F E ++ (qw a Q)))) (As := [.int (nI w)]) (rest := []) hz (okAm tS sk sv) (c0_isCut l_ D k a 1 tS sk sv F E M w hR hf (by omega)) (cwV 1 hz.2.2.2.2 gX5_surest_X0_isCut rfl rfl rfl (by decide +kernel) ⟨Nat.le_of_ble_eq_true rfl, Nat.le_of_ble_eq_true rfl⟩) hK hy (hP.sub (ws' := bw a 1 k F E) [1, 2, 3, 4, 5, 6, 7, 8] rfl) (hD.sub (ws' := bw a 1 k F E) [1, 2, 3, 4, 5, 6, 7, 8] (by decide) rfl) hS 0 0 rfl rfl rfl rfl hl.1 rfl (Nat.le_of_ble_eq_true rfl) dX5_surest_56 ⟨Nat.zero_le _, Nat.zero_le _⟩ ?_
            refine zeq (tgt := 66) hz dX5_surest_59 (by decide) (fun c_59 => ?_) (fun c_59 => ?_)
            · refine lv_aload_n hz.1 hz.2.1 dX5_surest_66 rfl (lv_at hl 0 rfl) ?_
              refine lv_iload_n hz.1 hz.2.1 dX5_surest_67 rfl (lv_at hl 1 rfl) ?_
              refine lv_iload hz.1 hz.2.1 dX5_surest_68 (lv_at hl 5 rfl) ?_
              refine lv_iload_n hz.1 hz.2.1 dX5_surest_70 rfl (lv_at hl 2 rfl) ?_
              refine rdV (A := wA (ho a C ++ (bw a 1 k F E ++ (qw a Q)))) (As := [.int (nI kk), .int (nI w), .int (nI stp)]) (rest := []) hz (okAm tS sk sv) (c5_deafLots l_ D k a tS sk sv C F E M kk w stp hR hf (by omega) (by omega) (by omega)) (cwV 3 hz.2.2.2.2 gX5_surest_X5_deafLots rfl rfl rfl (by decide +kernel) ⟨Nat.le_of_ble_eq_true rfl, Nat.le_of_ble_eq_true rfl⟩) hK hy (hP.sub (ws' := ho a C ++ (bw a 1 k F E)) [0, 1, 2, 3, 4, 5, 6, 7, 8] rfl) (hD.sub (ws' := ho a C ++ (bw a 1 k F E)) [0, 1, 2, 3, 4, 5, 6, 7, 8] (by decide) rfl) hS 0 5 rfl rfl rfl rfl hl.1 rfl (Nat.le_of_ble_eq_true rfl) dX5_surest_71 ⟨Nat.zero_le _, Nat.zero_le _⟩ ?_
              refine toe (z := oI (sSuF M kk stp w)) (by simp only [sSuF, if_neg (of_decide_eq_false c_59)]; rfl) ?_
              refine lv_istore (lv' := [(6, .int (oI (sSuF M kk stp w))), (0, .ref (a 0)), (1, .int (nI kk)), (2, .int (nI stp)), (3, .int (oI ((sSu (sSuF M kk stp) w).1))), (4, .int (oI ((sSu (sSuF M kk stp) w).2))), (5, .int (nI w))]) hz.1 hz.2.1 dX5_surest_74 hl (by decide) rfl (fun ls hl => ?_)
              refine lv_iload hz.1 hz.2.1 dX5_surest_76 (lv_at hl 0 rfl) ?_
              refine lv_iload hz.1 hz.2.1 dX5_surest_78 (lv_at hl 5 rfl) ?_
              refine lv_icmp_le (tgt := 90) hz.1 hz.2.1 dX5_surest_80 (by decide) (fun c_80 => ?_) (fun c_80 => ?_)
              · have cl : oLt (sSu (sSuF M kk stp) w).2 ((sSuF M kk stp) w) = false := (oI_le (fun j hj => by have := sSuF_lt hf (by omega) hj; omega) (fun j hj => by have := sSu_lt (fun w j hj => sSuF_lt hf (by omega) hj) w j hj; omega)).mp c_80
                have es : sSu (sSuF M kk stp) (w + 1) = sSu (sSuF M kk stp) w := by rw [sSu, if_neg (by rw [cl]; decide)]
                rw [← es] at hl
                refine lv_iinc (v := nI (w + 1)) (lv' := [(5, .int (nI (w + 1))), (6, .int (oI (sSuF M kk stp w))), (0, .ref (a 0)), (1, .int (nI kk)), (2, .int (nI stp)), (3, .int (oI ((sSu (sSuF M kk stp) (w + 1)).1))), (4, .int (oI ((sSu (sSuF M kk stp) (w + 1)).2)))]) hz.1 hz.2.1 dX5_surest_90 hl (k := 6) rfl (nI_add _ 1) (by decide) rfl (fun ls hl => ?_)
                refine lv_goto (tgt := 38) hz.1 hz.2.1 dX5_surest_93 (by decide) ?_
                exact ih38 (w + 1) (by omega) (by omega) ls (lv_sub hl [2, 3, 4, 5, 6, 0] rfl)
              · have cl : oLt (sSu (sSuF M kk stp) w).2 ((sSuF M kk stp) w) = true := by rw [← Bool.not_eq_false]; exact fun hq => c_80 ((oI_le (fun j hj => by have := sSuF_lt hf (by omega) hj; omega) (fun j hj => by have := sSu_lt (fun w j hj => sSuF_lt hf (by omega) hj) w j hj; omega)).mpr hq)
                refine lv_iload hz.1 hz.2.1 dX5_surest_83 (lv_at hl 6 rfl) ?_
                refine toe (z := oI ((sSu (sSuF M kk stp) (w + 1)).1)) (by rw [sSu, if_pos cl]; rfl) ?_
                refine lv_istore_n (lv' := [(3, .int (oI ((sSu (sSuF M kk stp) (w + 1)).1))), (6, .int (oI (sSuF M kk stp w))), (0, .ref (a 0)), (1, .int (nI kk)), (2, .int (nI stp)), (4, .int (oI ((sSu (sSuF M kk stp) w).2))), (5, .int (nI w))]) hz.1 hz.2.1 dX5_surest_85 rfl hl (by decide) rfl (fun ls hl => ?_)
                refine lv_iload hz.1 hz.2.1 dX5_surest_86 (lv_at hl 1 rfl) ?_
                refine toe (z := oI ((sSu (sSuF M kk stp) (w + 1)).2)) (by rw [sSu, if_pos cl]) ?_
                refine lv_istore (lv' := [(4, .int (oI ((sSu (sSuF M kk stp) (w + 1)).2))), (3, .int (oI ((sSu (sSuF M kk stp) (w + 1)).1))), (6, .int (oI (sSuF M kk stp w))), (0, .ref (a 0)), (1, .int (nI kk)), (2, .int (nI stp)), (5, .int (nI w))]) hz.1 hz.2.1 dX5_surest_88 hl (by decide) rfl (fun ls hl => ?_)
                refine lv_iinc (v := nI (w + 1)) (lv' := [(5, .int (nI (w + 1))), (4, .int (oI ((sSu (sSuF M kk stp) (w + 1)).2))), (3, .int (oI ((sSu (sSuF M kk stp) (w + 1)).1))), (6, .int (oI (sSuF M kk stp w))), (0, .ref (a 0)), (1, .int (nI kk)), (2, .int (nI stp))]) hz.1 hz.2.1 dX5_surest_90 hl (k := 6) rfl (nI_add _ 1) (by decide) rfl (fun ls hl => ?_)
                refine lv_goto (tgt := 38) hz.1 hz.2.1 dX5_surest_93 (by decide) ?_
                exact ih38 (w + 1) (by omega) (by omega) ls (lv_sub hl [4, 5, 6, 2, 1, 0] rfl)
            · refine lv_iconst (v := (-1)) hz.1 hz.2.1 dX5_surest_62 (by decide) ?_
              refine lv_goto (tgt := 74) hz.1 hz.2.1 dX5_surest_63 (by decide) ?_
              refine toe (z := oI (sSuF M kk stp w)) (by simp only [sSuF, if_pos (of_decide_eq_true c_59)]; rfl) ?_
              refine lv_istore (lv' := [(6, .int (oI (sSuF M kk stp w))), (0, .ref (a 0)), (1, .int (nI kk)), (2, .int (nI stp)), (3, .int (oI ((sSu (sSuF M kk stp) w).1))), (4, .int (oI ((sSu (sSuF M kk stp) w).2))), (5, .int (nI w))]) hz.1 hz.2.1 dX5_surest_74 hl (by decide) rfl (fun ls hl => ?_)
              refine lv_iload hz.1 hz.2.1 dX5_surest_76 (lv_at hl 0 rfl) ?_
              refine lv_iload hz.1 hz.2.1 dX5_surest_78 (lv_at hl 5 rfl) ?_
              refine lv_icmp_le (tgt := 90) hz.1 hz.2.1 dX5_surest_80 (by decide) (fun c_80 => ?_) (fun c_80 => ?_)
              · have cl : oLt (sSu (sSuF M kk stp) w).2 ((sSuF M kk stp) w) = false := (oI_le (fun j hj => by have := sSuF_lt hf (by omega) hj; omega) (fun j hj => by have := sSu_lt (fun w j hj => sSuF_lt hf (by omega) hj) w j hj; omega)).mp c_80
                have es : sSu (sSuF M kk stp) (w + 1) = sSu (sSuF M kk stp) w := by rw [sSu, if_neg (by rw [cl]; decide)]
                rw [← es] at hl
                refine lv_iinc (v := nI (w + 1)) (lv' := [(5, .int (nI (w + 1))), (6, .int (oI (sSuF M kk stp w))), (0, .ref (a 0)), (1, .int (nI kk)), (2, .int (nI stp)), (3, .int (oI ((sSu (sSuF M kk stp) (w + 1)).1))), (4, .int (oI ((sSu (sSuF M kk stp) (w + 1)).2)))]) hz.1 hz.2.1 dX5_surest_90 hl (k := 6) rfl (nI_add _ 1) (by decide) rfl (fun ls hl => ?_)
                refine lv_goto (tgt := 38) hz.1 hz.2.1 dX5_surest_93 (by decide) ?_
                exact ih38 (w + 1) (by omega) (by omega) ls (lv_sub hl [2, 3, 4, 5, 6, 0] rfl)
              · have cl : oLt (sSu (sSuF M kk stp) w).2 ((sSuF M kk stp) w) = true := by rw [← Bool.not_eq_false]; exact fun hq => c_80 ((oI_le (fun j hj => by have := sSuF_lt hf (by omega) hj; omega) (fun j hj => by have := sSu_lt (fun w j hj => sSuF_lt hf (by omega) hj) w j hj; omega)).mpr hq)
                refine lv_iload hz.1 hz.2.1 dX5_surest_83 (lv_at hl 6 rfl) ?_
                refine toe (z := oI ((sSu (sSuF M kk stp) (w + 1)).1)) (by rw [sSu, if_pos cl]; rfl) ?_
                refine lv_istore_n (lv' := [(3, .int (oI ((sSu (sSuF M kk stp) (w + 1)).1))), (6, .int (oI (sSuF M kk stp w))), (0, .ref (a 0)), (1, .int (nI kk)), (2, .int (nI stp)), (4, .int (oI ((sSu (sSuF M kk stp) w).2))), (5, .int (nI w))]) hz.1 hz.2.1 dX5_surest_85 rfl hl (by decide) rfl (fun ls hl => ?_)
                refine lv_iload hz.1 hz.2.1 dX5_surest_86 (lv_at hl 1 rfl) ?_
                refine toe (z := oI ((sSu (sSuF M kk stp) (w + 1)).2)) (by rw [sSu, if_pos cl]) ?_
                refine lv_istore (lv' := [(4, .int (oI ((sSu (sSuF M kk stp) (w + 1)).2))), (3, .int (oI ((sSu (sSuF M kk stp) (w + 1)).1))), (6, .int (oI (sSuF M kk stp w))), (0, .ref (a 0)), (1, .int (nI kk)), (2, .int (nI stp)), (5, .int (nI w))]) hz.1 hz.2.1 dX5_surest_88 hl (by decide) rfl (fun ls hl => ?_)
                refine lv_iinc (v := nI (w + 1)) (lv' := [(5, .int (nI (w + 1))), (4, .int (oI ((sSu (sSuF M kk stp) (w + 1)).2))), (3, .int (oI ((sSu (sSuF M kk stp) (w + 1)).1))), (6, .int (oI (sSuF M kk stp w))), (0, .ref (a 0)), (1, .int (nI kk)), (2, .int (nI stp))]) hz.1 hz.2.1 dX5_surest_90 hl (k := 6) rfl (nI_add _ 1) (by decide) rfl (fun ls hl => ?_)
                refine lv_goto (tgt := 38) hz.1 hz.2.1 dX5_surest_93 (by decide) ?_
                exact ih38 (w + 1) (by omega) (by omega) ls (lv_sub hl [4, 5, 6, 2, 1, 0] rfl)
      exact lp_38 _ 0 (by omega) (Nat.lt_succ_self _) ls (lv_sub hl [3, 4, 5, 2, 1, 0] rfl)
    · exact absurd ((wIn_ok (by omega) (by omega) (by omega)).symm.trans c_20) (by decide)

theorem hinX5_doubled_X5 : ∀ w ∈ wsX50, w ∈ wsX5_doubled := fun _ h => List.mem_cons_of_mem _ (List.mem_append_left _ (List.mem_append_right _ h))
theorem hinX5_doubled_X0 : ∀ w ∈ wsX00, w ∈ wsX5_doubled := fun _ h => List.mem_cons_of_mem _ (List.mem_append_right _ h)
set_option maxHeartbeats 4000000 in
set_option maxRecDepth 100000 in
theorem c5_doubled (l_ : Launch) (D : va_G) (k : Nat → ClassId) (a : Nat → Nat) (tS : Nat) (sk sv : Nat → Nat) (C : Nat → Nat) (F : Nat → Nat) (E : Nat → Nat → Nat) (M : Nat → Nat)  (hR : Rb M F E) (hf : Wf M) : Met l_ yX5_doubled wsX5_doubled ({ frames := 3, cells := 0, slots := 0, locals := 67 }) (va_Pc [.ref (a 0)] (wH (Am tS sk sv) D k (ho a C ++ (bw a 1 k F E)))) (QcRead (oI (sDoubled M))) 0 0 (fun _ => False) := by
  refine my_entry (cc := cX5_doubled) (maxL := 6) (ret := some .int) (by decide) rfl (Nat.le_of_ble_eq_true rfl) ?_
  intro p_ e_ s_ m_ bl_ me_ c_ hz hr hlk hB ls hl
  obtain ⟨hP, hK, hD0, hy⟩ := hB
  have hD := wA.self hD0
  have hS : va_S (wA (ho a C ++ (bw a 1 k F E))) s_.heap s_.heap [] := va_S.rf
  have hl : lv_has ls 6 [(0, .ref (a 0))] := hl
  have f0 := hf.n2
  have f1 := hf.n9
  have f2 := hf.fr
  have f3 := hf.gd
  have f4 := hf.pc
  have f5 := hf.wc
  have e0 : F 0 = M 0 := hR.1.1
  have e1 : F 1 = M 1 := hR.1.2.1
  have e2 : F 2 = M 2 := hR.1.2.2.1
  have e3 : F 3 = M 19 := hR.1.2.2.2.1
  have e4 : F 4 = M 32 := hR.1.2.2.2.2
  have q1 := sPairs_le hf
  refine lv_iconst (v := (-1)) hz.1 hz.2.1 dX5_doubled_0 (by decide) ?_
  refine toe (z := oI ((kDb M 0).2)) (rfl) ?_
  refine lv_istore_n (lv' := [(1, .int (oI ((kDb M 0).2))), (0, .ref (a 0))]) hz.1 hz.2.1 dX5_doubled_1 rfl hl (by decide) rfl (fun ls hl => ?_)
  refine lv_iconst (v := nI 0) hz.1 hz.2.1 dX5_doubled_2 (by decide) ?_
  refine toe (z := nI ((kDb M 0).1 - sPairs M)) (by rw [show (kDb M 0).1 = sPairs M from rfl, Nat.sub_self]) ?_
  refine lv_istore_n (lv' := [(2, .int (nI ((kDb M 0).1 - sPairs M))), (1, .int (oI ((kDb M 0).2))), (0, .ref (a 0))]) hz.1 hz.2.1 dX5_doubled_3 rfl hl (by decide) rfl (fun ls hl => ?_)
  refine lv_iconst (v := nI 0) hz.1 hz.2.1 dX5_doubled_4 (by decide) ?_
  refine lv_istore_n (lv' := [(3, .int (nI 0)), (2, .int (nI ((kDb M 0).1 - sPairs M))), (1, .int (oI ((kDb M 0).2))), (0, .ref (a 0))]) hz.1 hz.2.1 dX5_doubled_5 rfl hl (by decide) rfl (fun ls hl => ?_)
  have lp_6 : ∀ (fu : Nat) (w : Nat), (w ≤ M 0 - 1) → M 0 - 1 - w < fu → ∀ ls : Array Slot, lv_has ls 6 [(0, .ref (a 0)), (1, .int (oI ((kDb M w).2))), (2, .int (nI ((kDb M w).1 - sPairs M))), (3, .int (nI w))] → W p_ l_ e_ ({ frames := 3, cells := 0, slots := 0, locals := 67 }) s_ m_ [.ref (a 0)].toArray bl_ me_ c_ s_.heap [] 0 0 (MQ bl_ (QcRead (oI (sDoubled M))) [.ref (a 0)].toArray s_ 0 0 (fun _ => False)) (F0 m_ 6 ls []) := by
    intro fu
    induction fu with
    | zero => intro w hw hm; exact absurd hm (Nat.not_lt_zero _)
    | succ fu ih6 =>
      intro w hw hm ls hl
      refine lv_iload_n hz.1 hz.2.1 dX5_doubled_6 rfl (lv_at hl 3 rfl) ?_
      refine lv_aload_n hz.1 hz.2.1 dX5_doubled_7 rfl (lv_at hl 0 rfl) ?_
      refine rg (T := TX5) (N := 11) hz hinX5_doubled_X5 hK hP 0 rfl rfl 0 (by decide) (List.mem_of_getElem? (i := 1) rfl) rfl (v := .ref (a 1)) rfl dX5_doubled_8 ?_
      refine rdV (A := wA (ho a C ++ (bw a 1 k F E))) (As := []) (rest := [.int (nI w)]) hz (okAm tS sk sv) (c0_wireCount l_ D k a 1 tS sk sv F E M  hR hf) (cwV 0 hz.2.2.2.2 gX5_doubled_X0_wireCount rfl rfl rfl (by decide +kernel) ⟨Nat.le_of_ble_eq_true rfl, Nat.le_of_ble_eq_true rfl⟩) hK hy (hP.sub (ws' := bw a 1 k F E) [1, 2, 3, 4, 5, 6, 7, 8] rfl) (hD.sub (ws' := bw a 1 k F E) [1, 2, 3, 4, 5, 6, 7, 8] (by decide) rfl) hS 0 0 rfl rfl rfl rfl hl.1 rfl (Nat.le_of_ble_eq_true rfl) dX5_doubled_11 ⟨Nat.zero_le _, Nat.zero_le _⟩ ?_
      refine jge (tgt := 80) hz dX5_doubled_14 (by decide) (by omega) (by omega) (fun c_14 => ?_) (fun c_14 => ?_)
      · obtain rfl : w = M 0 - 1 := by omega
        refine lv_iload_n hz.1 hz.2.1 dX5_doubled_80 rfl (lv_at hl 1 rfl) ?_
        exact rd_iret hz hr hlk dX5_doubled_81 (rfl)
      · have k1 := kNow_le M w
        have k2 : kThen M w ≤ M 0 := fb_ct_le _ _
        have r1 := sReach_lt hf w 1
        have r2 := sSpan_lt (n := M 0) (w := w) (l := 3) (by omega) (by omega)
        have k3 : (kDb M w).1 ≤ 81 := sDb_le q1 w (fun k hk => sPairs_le (hf.kset (by omega) (by omega)))
        refine lv_aload_n hz.1 hz.2.1 dX5_doubled_17 rfl (lv_at hl 0 rfl) ?_
        refine rg (T := TX5) (N := 11) hz hinX5_doubled_X5 hK hP 0 rfl rfl 0 (by decide) (List.mem_of_getElem? (i := 1) rfl) rfl (v := .ref (a 1)) rfl dX5_doubled_18 ?_
        refine lv_iload_n hz.1 hz.2.1 dX5_doubled_21 rfl (lv_at hl 3 rfl) ?_
        refine rgsO hz hy hS (List.mem_of_getElem? (i := 2) rfl) dX5_doubled_22 ?_
        refine lv_iconst (v := nI 0) hz.1 hz.2.1 dX5_doubled_25 (by decide) ?_
        refine rti hz hy hS (by omega) dX5_doubled_26 ?_
        refine toe (z := nI 1) rfl ?_
        refine rdV (A := wA (ho a C ++ (bw a 1 k F E))) (As := [.int (nI w), .int (nI 1)]) (rest := []) hz (okAm tS sk sv) (c0_reach l_ D k a 1 tS sk sv F E M w 1 hR hf (by omega) (by omega) (by omega)) (cwV 2 hz.2.2.2.2 gX5_doubled_X0_reach rfl rfl rfl (by decide +kernel) ⟨Nat.le_of_ble_eq_true rfl, Nat.le_of_ble_eq_true rfl⟩) hK hy (hP.sub (ws' := bw a 1 k F E) [1, 2, 3, 4, 5, 6, 7, 8] rfl) (hD.sub (ws' := bw a 1 k F E) [1, 2, 3, 4, 5, 6, 7, 8] (by decide) rfl) hS 0 0 rfl rfl rfl rfl hl.1 rfl (Nat.le_of_ble_eq_true rfl) dX5_doubled_27 ⟨Nat.zero_le _, Nat.zero_le _⟩ ?_
        refine rdS (As := [.int (nI (sReach M w 1))]) (rest := []) hz (cJ_bit l_ (sReach M w 1) (by omega)) rfl (va_cwS 1 hz.2.2.2.2 gX5_doubled_J6_bitCount_0f7a4 rfl rfl rfl (by decide +kernel) ⟨Nat.le_of_ble_eq_true rfl, Nat.le_of_ble_eq_true rfl⟩) rfl hl.1 rfl (Nat.le_of_ble_eq_true rfl) dX5_doubled_30 ⟨Nat.zero_le _, Nat.zero_le _⟩ ?_
        refine toe (z := nI (kNow M w)) (by rw [sReach_pop hf (by omega) (by decide)]; rfl) ?_
        refine lv_istore (lv' := [(4, .int (nI (kNow M w))), (0, .ref (a 0)), (1, .int (oI ((kDb M w).2))), (2, .int (nI ((kDb M w).1 - sPairs M))), (3, .int (nI w))]) hz.1 hz.2.1 dX5_doubled_33 hl (by decide) rfl (fun ls hl => ?_)
        refine lv_aload_n hz.1 hz.2.1 dX5_doubled_35 rfl (lv_at hl 1 rfl) ?_
        refine rg (T := TX5) (N := 11) hz hinX5_doubled_X5 hK hP 0 rfl rfl 0 (by decide) (List.mem_of_getElem? (i := 1) rfl) rfl (v := .ref (a 1)) rfl dX5_doubled_36 ?_
        refine lv_iload_n hz.1 hz.2.1 dX5_doubled_39 rfl (lv_at hl 4 rfl) ?_
        refine lv_iconst (v := nI 1) hz.1 hz.2.1 dX5_doubled_40 (by decide) ?_
        refine rgsO hz hy hS (List.mem_of_getElem? (i := 2) rfl) dX5_doubled_41 ?_
        refine lv_iconst (v := nI 0) hz.1 hz.2.1 dX5_doubled_44 (by decide) ?_
        refine rti hz hy hS (by omega) dX5_doubled_45 ?_
        refine toe (z := nI 1) rfl ?_
        refine rdS (As := [.int (nI 1), .int (nI 1)]) (rest := [.int (nI w), .ref (a 1)]) hz (c5_loudBy l_ 1 1 (by omega) (by omega) (by omega)) rfl (va_cwS 2 hz.2.2.2.2 gX5_doubled_X5_loudBy rfl rfl rfl (by decide +kernel) ⟨Nat.le_of_ble_eq_true rfl, Nat.le_of_ble_eq_true rfl⟩) rfl hl.1 rfl (Nat.le_of_ble_eq_true rfl) dX5_doubled_46 ⟨Nat.zero_le _, Nat.zero_le _⟩ ?_
        refine toe (z := nI 3) (rfl) ?_
        refine rdV (A := wA (ho a C ++ (bw a 1 k F E))) (As := [.int (nI w), .int (nI 3)]) (rest := []) hz (okAm tS sk sv) (c0_span l_ D k a 1 tS sk sv F E M w 3 hR hf (by omega) (by omega)) (cwV 2 hz.2.2.2.2 gX5_doubled_X0_span rfl rfl rfl (by decide +kernel) ⟨Nat.le_of_ble_eq_true rfl, Nat.le_of_ble_eq_true rfl⟩) hK hy (hP.sub (ws' := bw a 1 k F E) [1, 2, 3, 4, 5, 6, 7, 8] rfl) (hD.sub (ws' := bw a 1 k F E) [1, 2, 3, 4, 5, 6, 7, 8] (by decide) rfl) hS 0 0 rfl rfl rfl rfl hl.1 rfl (Nat.le_of_ble_eq_true rfl) dX5_doubled_49 ⟨Nat.zero_le _, Nat.zero_le _⟩ ?_
        refine rdS (As := [.int (nI (sSpan (M 0) w 3))]) (rest := []) hz (cJ_bit l_ (sSpan (M 0) w 3) (by omega)) rfl (va_cwS 1 hz.2.2.2.2 gX5_doubled_J6_bitCount_0f7a4 rfl rfl rfl (by decide +kernel) ⟨Nat.le_of_ble_eq_true rfl, Nat.le_of_ble_eq_true rfl⟩) rfl hl.1 rfl (Nat.le_of_ble_eq_true rfl) dX5_doubled_52 ⟨Nat.zero_le _, Nat.zero_le _⟩ ?_
        refine toe (z := nI (kThen M w)) (by rw [kThen_is hf (by omega)]) ?_
        refine lv_istore (lv' := [(5, .int (nI (kThen M w))), (4, .int (nI (kNow M w))), (0, .ref (a 0)), (1, .int (oI ((kDb M w).2))), (2, .int (nI ((kDb M w).1 - sPairs M))), (3, .int (nI w))]) hz.1 hz.2.1 dX5_doubled_55 hl (by decide) rfl (fun ls hl => ?_)
        refine lv_iload hz.1 hz.2.1 dX5_doubled_57 (lv_at hl 0 rfl) ?_
        refine lv_iload hz.1 hz.2.1 dX5_doubled_59 (lv_at hl 1 rfl) ?_
        refine lv_isub hz.1 hz.2.1 dX5_doubled_61 ?_
        refine toe (z := nI ((kThen M w) - (kNow M w))) (pk_sub (by omega)) ?_
        refine lv_iload_n hz.1 hz.2.1 dX5_doubled_62 rfl (lv_at hl 4 rfl) ?_
        refine jle (tgt := 74) hz dX5_doubled_63 (by decide) (by omega) (by omega) (fun c_63 => ?_) (fun c_63 => ?_)
        · have es := kDb_0 (M := M) (w := w) (by omega) (by omega)
          rw [← es] at hl
          refine lv_iinc (v := nI (w + 1)) (lv' := [(3, .int (nI (w + 1))), (5, .int (nI (kThen M w))), (4, .int (nI (kNow M w))), (0, .ref (a 0)), (1, .int (oI ((kDb M (w + 1)).2))), (2, .int (nI ((kDb M (w + 1)).1 - sPairs M)))]) hz.1 hz.2.1 dX5_doubled_74 hl (k := 5) rfl (nI_add _ 1) (by decide) rfl (fun ls hl => ?_)
          refine lv_goto (tgt := 6) hz.1 hz.2.1 dX5_doubled_77 (by decide) ?_
          exact ih6 (w + 1) (by omega) (by omega) ls (lv_sub hl [3, 4, 5, 0] rfl)
        · have es := kDb_1 (M := M) (w := w) (by omega) (by omega)
          refine lv_iload_n hz.1 hz.2.1 dX5_doubled_66 rfl (lv_at hl 5 rfl) ?_
          refine toe (z := oI ((kDb M (w + 1)).2)) (by rw [es.1]; rfl) ?_
          refine lv_istore_n (lv' := [(1, .int (oI ((kDb M (w + 1)).2))), (5, .int (nI (kThen M w))), (4, .int (nI (kNow M w))), (0, .ref (a 0)), (2, .int (nI ((kDb M w).1 - sPairs M))), (3, .int (nI w))]) hz.1 hz.2.1 dX5_doubled_67 rfl hl (by decide) rfl (fun ls hl => ?_)
          refine lv_iload hz.1 hz.2.1 dX5_doubled_68 (lv_at hl 1 rfl) ?_
          refine lv_iload hz.1 hz.2.1 dX5_doubled_70 (lv_at hl 2 rfl) ?_
          refine lv_isub hz.1 hz.2.1 dX5_doubled_72 ?_
          refine toe (z := nI ((kThen M w) - (kNow M w))) (pk_sub (by omega)) ?_
          refine toe (z := nI ((kDb M (w + 1)).1 - sPairs M)) (by rw [es.2]) ?_
          refine lv_istore_n (lv' := [(2, .int (nI ((kDb M (w + 1)).1 - sPairs M))), (1, .int (oI ((kDb M (w + 1)).2))), (5, .int (nI (kThen M w))), (4, .int (nI (kNow M w))), (0, .ref (a 0)), (3, .int (nI w))]) hz.1 hz.2.1 dX5_doubled_73 rfl hl (by decide) rfl (fun ls hl => ?_)
          refine lv_iinc (v := nI (w + 1)) (lv' := [(3, .int (nI (w + 1))), (2, .int (nI ((kDb M (w + 1)).1 - sPairs M))), (1, .int (oI ((kDb M (w + 1)).2))), (5, .int (nI (kThen M w))), (4, .int (nI (kNow M w))), (0, .ref (a 0))]) hz.1 hz.2.1 dX5_doubled_74 hl (k := 5) rfl (nI_add _ 1) (by decide) rfl (fun ls hl => ?_)
          refine lv_goto (tgt := 6) hz.1 hz.2.1 dX5_doubled_77 (by decide) ?_
          exact ih6 (w + 1) (by omega) (by omega) ls (lv_sub hl [5, 2, 1, 0] rfl)
  exact lp_6 _ 0 (by omega) (Nat.lt_succ_self _) ls (lv_sub hl [3, 2, 1, 0] rfl)

set_option maxHeartbeats 4000000 in
set_option maxRecDepth 100000 in
theorem c5_doubt_ok (l_ : Launch) (D : va_G) (k : Nat → ClassId) (a : Nat → Nat) (tS : Nat) (sk sv : Nat → Nat) (C : Nat → Nat) (F : Nat → Nat) (E : Nat → Nat → Nat) (Q : Nat → Nat) (M : Nat → Nat) (p q : Nat) (hR : Rb M F E) (hf : Wf M) (h1 : p ≤ 100) (h2 : q ≤ 100) : Met l_ yX5_doubt wsX5_doubt ({ frames := 2, cells := 0, slots := 0, locals := 52 }) (va_Pc [.ref (a 0), .int (nI p), .int (nI q)] (wH (Am tS sk sv) D k (ho a C ++ (bw a 1 k F E ++ (qw a Q))))) (va_Qi (fun (r : Int32) (u : Unit) => r = nI 1) (fun (u : Unit) (t_ : State) => va_P D vwCl ((fun (_ : Unit) => ho a C ++ (bw a 1 k F E ++ (qw a (nset (nset Q 0 ((100 * p) / Nat.gcd (100 * p) (sDu p q))) 1 ((sDu p q) / Nat.gcd (100 * p) (sDu p q)))))) u) t_.heap) (wA (ho a C ++ (bw a 1 k F E ++ (qw a Q))))) 0 0 (wA (ho a C ++ (bw a 1 k F E ++ (qw a Q)))) := by
  refine my_entry (cc := cX5_doubt) (maxL := 4) (ret := some .int) (by decide) rfl (Nat.le_of_ble_eq_true rfl) ?_
  intro p_ e_ s_ m_ bl_ me_ c_ hz hr hlk hB ls hl
  obtain ⟨hP, hK, hD0, hy⟩ := hB
  have hD := wA.self hD0
  have hS : va_S (wA (ho a C ++ (bw a 1 k F E ++ (qw a Q)))) s_.heap s_.heap [] := va_S.rf
  have hl : lv_has ls 4 [(0, .ref (a 0)), (1, .int (nI p)), (2, .int (nI q))] := hl
  have f0 := hf.n2
  have f1 := hf.n9
  have f2 := hf.fr
  have f3 := hf.gd
  have f4 := hf.pc
  have f5 := hf.wc
  have e0 : F 0 = M 0 := hR.1.1
  have e1 : F 1 = M 1 := hR.1.2.1
  have e2 : F 2 = M 2 := hR.1.2.2.1
  have e3 : F 3 = M 19 := hR.1.2.2.2.1
  have e4 : F 4 = M 32 := hR.1.2.2.2.2
  have q1 : p * q ≤ 100 * q := Nat.mul_le_mul_right q h1
  have q2 : 1 ≤ sDu p q ∧ sDu p q ≤ 20001 := by unfold sDu; split <;> omega
  refine lv_iload_n hz.1 hz.2.1 dX5_doubt_0 rfl (lv_at hl 1 rfl) ?_
  refine lv_iconst (v := nI 0) hz.1 hz.2.1 dX5_doubt_1 (by decide) ?_
  refine lv_bipush (v := nI 100) hz.1 hz.2.1 dX5_doubt_2 (by decide) ?_
  refine rdS (As := [.int (nI p), .int (nI 0), .int (nI 100)]) (rest := []) hz (c5_within l_ (nI p) 0 100 ) rfl (va_cwS 3 hz.2.2.2.2 gX5_doubt_X5_within rfl rfl rfl (by decide +kernel) ⟨Nat.le_of_ble_eq_true rfl, Nat.le_of_ble_eq_true rfl⟩) rfl hl.1 rfl (Nat.le_of_ble_eq_true rfl) dX5_doubt_4 ⟨Nat.zero_le _, Nat.zero_le _⟩ ?_
  refine zeq (tgt := 20) hz dX5_doubt_7 (by decide) (fun c_7 => ?_) (fun c_7 => ?_)
  · exact absurd ((wIn_ok (by omega) (by omega) (by omega)).symm.trans c_7) (by decide)
  · refine lv_iload_n hz.1 hz.2.1 dX5_doubt_10 rfl (lv_at hl 2 rfl) ?_
    refine lv_iconst (v := nI 0) hz.1 hz.2.1 dX5_doubt_11 (by decide) ?_
    refine lv_bipush (v := nI 100) hz.1 hz.2.1 dX5_doubt_12 (by decide) ?_
    refine rdS (As := [.int (nI q), .int (nI 0), .int (nI 100)]) (rest := []) hz (c5_within l_ (nI q) 0 100 ) rfl (va_cwS 3 hz.2.2.2.2 gX5_doubt_X5_within rfl rfl rfl (by decide +kernel) ⟨Nat.le_of_ble_eq_true rfl, Nat.le_of_ble_eq_true rfl⟩) rfl hl.1 rfl (Nat.le_of_ble_eq_true rfl) dX5_doubt_14 ⟨Nat.zero_le _, Nat.zero_le _⟩ ?_
    refine zne (tgt := 27) hz dX5_doubt_17 (by decide) (fun c_17 => ?_) (fun c_17 => ?_)
    · refine lv_bipush (v := nI 100) hz.1 hz.2.1 dX5_doubt_27 (by decide) ?_
      refine lv_iload_n hz.1 hz.2.1 dX5_doubt_29 rfl (lv_at hl 1 rfl) ?_
      refine lv_imul hz.1 hz.2.1 dX5_doubt_30 ?_
      refine toe (z := nI (100 * p)) (pk_mul _ _) ?_
      refine lv_bipush (v := nI 100) hz.1 hz.2.1 dX5_doubt_31 (by decide) ?_
      refine lv_iload_n hz.1 hz.2.1 dX5_doubt_33 rfl (lv_at hl 2 rfl) ?_
      refine lv_imul hz.1 hz.2.1 dX5_doubt_34 ?_
      refine toe (z := nI (100 * q)) (pk_mul _ _) ?_
      refine lv_iadd hz.1 hz.2.1 dX5_doubt_35 ?_
      refine toe (z := nI ((100 * p) + (100 * q))) (nI_add _ _) ?_
      refine lv_iload_n hz.1 hz.2.1 dX5_doubt_36 rfl (lv_at hl 1 rfl) ?_
      refine lv_iload_n hz.1 hz.2.1 dX5_doubt_37 rfl (lv_at hl 2 rfl) ?_
      refine lv_imul hz.1 hz.2.1 dX5_doubt_38 ?_
      refine toe (z := nI (p * q)) (pk_mul _ _) ?_
      refine lv_isub hz.1 hz.2.1 dX5_doubt_39 ?_
      refine toe (z := nI (((100 * p) + (100 * q)) - (p * q))) (pk_sub (by omega)) ?_
      refine lv_istore_n (lv' := [(3, .int (nI (((100 * p) + (100 * q)) - (p * q)))), (0, .ref (a 0)), (1, .int (nI p)), (2, .int (nI q))]) hz.1 hz.2.1 dX5_doubt_40 rfl hl (by decide) rfl (fun ls hl => ?_)
      refine lv_aload_n hz.1 hz.2.1 dX5_doubt_41 rfl (lv_at hl 1 rfl) ?_
      refine rg (T := TX5) (N := 11) hz hinX5_doubt_X5 hK hP 0 rfl rfl 7 (by decide) (List.mem_of_getElem? (i := 1) rfl) rfl (v := .ref (a 53)) rfl dX5_doubt_42 ?_
      refine lv_bipush (v := nI 100) hz.1 hz.2.1 dX5_doubt_45 (by decide) ?_
      refine lv_iload_n hz.1 hz.2.1 dX5_doubt_47 rfl (lv_at hl 2 rfl) ?_
      refine lv_imul hz.1 hz.2.1 dX5_doubt_48 ?_
      refine toe (z := nI (100 * p)) (pk_mul _ _) ?_
      refine lv_i2l (v := lN (100 * p)) hz.1 hz.2.1 dX5_doubt_49 (nI_l (by omega)) ?_
      refine lv_iconst (v := nI 1) hz.1 hz.2.1 dX5_doubt_50 (by decide) ?_
      refine lv_iload_n hz.1 hz.2.1 dX5_doubt_51 rfl (lv_at hl 0 rfl) ?_
      refine va_mmax hz.1 hz.2.1 (by rw [hz.2.2.1]; exact hl.1.symm) hz.2.2.2.1 (hz.2.2.2.2 _ (List.mem_of_getElem? (i := 2) rfl)) (hz.2.2.2.2 _ (List.mem_of_getElem? (i := 3) rfl)) (hz.2.2.2.2 _ (List.mem_of_getElem? (i := 4) rfl)) (hz.2.2.2.2 _ (List.mem_of_getElem? (i := 5) rfl)) (Nat.le_of_ble_eq_true rfl) (Nat.le_of_ble_eq_true rfl) (Nat.zero_le _) (Nat.zero_le _) dX5_doubt_52 ?_
      refine toe (z := nI (sDu p q)) (du_max h1 h2) ?_
      refine lv_i2l (v := lN (sDu p q)) hz.1 hz.2.1 dX5_doubt_55 (nI_l (by omega)) ?_
      refine wrVv (A := wA (ho a C ++ (bw a 1 k F E ++ (qw a Q)))) (As := [.long (lN (100 * p)), .long (lN (sDu p q))]) (rest := []) hz (okAm tS sk sv) (c2_become l_ D k a tS sk sv Q  (100 * p) (sDu p q) (by omega) (by omega) (by omega)) (cwV 2 hz.2.2.2.2 gX5_doubt_X2_become rfl rfl rfl (by decide +kernel) ⟨Nat.le_of_ble_eq_true rfl, Nat.le_of_ble_eq_true rfl⟩) hK hy (hP.sub (ws' := qw a Q) [9] rfl) (hD.sub (ws' := qw a Q) [9] (by decide) rfl) hS 0 2 rfl rfl rfl rfl hl.1 rfl (Nat.le_of_ble_eq_true rfl) dX5_doubt_56 ⟨Nat.zero_le _, Nat.zero_le _⟩ (fun u H1 locs hp hP1 hS hfr => ?_)
      have hP1 : va_P D vwCl (qw a (nset (nset Q 0 ((100 * p) / Nat.gcd (100 * p) (sDu p q))) 1 ((sDu p q) / Nat.gcd (100 * p) (sDu p q)))) H1 := hP1
      have hP : va_P D vwCl (ho a C ++ (bw a 1 k F E ++ (qw a (nset (nset Q 0 ((100 * p) / Nat.gcd (100 * p) (sDu p q))) 1 ((sDu p q) / Nat.gcd (100 * p) (sDu p q)))))) H1 := wJn (w1 := qw a (nset (nset Q 0 ((100 * p) / Nat.gcd (100 * p) (sDu p q))) 1 ((sDu p q) / Nat.gcd (100 * p) (sDu p q)))) (wc := qw a Q) hP hD [9] rfl rfl hP1 hfr
      generalize H1 = H at hP hS ⊢
      have hD : va_D (wA (ho a C ++ (bw a 1 k F E ++ (qw a Q)))) (ho a C ++ (bw a 1 k F E ++ (qw a (nset (nset Q 0 ((100 * p) / Nat.gcd (100 * p) (sDu p q))) 1 ((sDu p q) / Nat.gcd (100 * p) (sDu p q)))))) := hD.same rfl
      refine lv_iconst (v := nI 1) hz.1 hz.2.1 dX5_doubt_59 (by decide) ?_
      exact wr_iret hz hr hlk dX5_doubt_60 hS (()) hP (rfl)
    · exact absurd ((wIn_ok (by omega) (by omega) (by omega)).symm.trans c_17) (by decide)

theorem hinX5_digest_X5 : ∀ w ∈ wsX50, w ∈ wsX5_digest := fun _ h => List.mem_cons_of_mem _ (List.mem_append_left _ (List.mem_append_left _ (List.mem_append_left _ (List.mem_append_right _ h))))
theorem hinX5_digest_X2 : ∀ w ∈ wsX20, w ∈ wsX5_digest := fun _ h => List.mem_cons_of_mem _ (List.mem_append_left _ (List.mem_append_left _ (List.mem_append_right _ h)))
theorem hinX5_digest_X0 : ∀ w ∈ wsX00, w ∈ wsX5_digest := fun _ h => List.mem_cons_of_mem _ (List.mem_append_left _ (List.mem_append_right _ h))
theorem hinX5_digest_X1 : ∀ w ∈ wsX10, w ∈ wsX5_digest := fun _ h => List.mem_cons_of_mem _ (List.mem_append_right _ h)
set_option maxHeartbeats 4000000 in
set_option maxRecDepth 100000 in
theorem c5_digest (l_ : Launch) (D : va_G) (k : Nat → ClassId) (a : Nat → Nat) (tS : Nat) (sk sv : Nat → Nat) (C : Nat → Nat) (F : Nat → Nat) (E : Nat → Nat → Nat) (X : Nat → Nat) (T : Nat → Nat) (Q : Nat → Nat) (M : Nat → Nat)  (hR : Rb M F E) (hf : Wf M) (hX : X 0 ≤ 200) : Met l_ yX5_digest wsX5_digest ({ frames := 2, cells := 0, slots := 0, locals := 45 }) (va_Pc [.ref (a 0)] (wH (Am tS sk sv) D k (ho a C ++ (bw a 1 k F E ++ (tw a k X T ++ (qw a Q)))))) (k2_QcV (.long (lN (sDig M (X 0) (Q 0) (Q 1))))) 0 0 (fun _ => False) := by
  refine my_entry (cc := cX5_digest) (maxL := 4) (ret := some .long) (by decide) rfl (Nat.le_of_ble_eq_true rfl) ?_
  intro p_ e_ s_ m_ bl_ me_ c_ hz hr hlk hB ls hl
  obtain ⟨hP, hK, hD0, hy⟩ := hB
  have hD := wA.self hD0
  have hS : va_S (wA (ho a C ++ (bw a 1 k F E ++ (tw a k X T ++ (qw a Q))))) s_.heap s_.heap [] := va_S.rf
  have hl : lv_has ls 4 [(0, .ref (a 0))] := hl
  have f0 := hf.n2
  have f1 := hf.n9
  have f2 := hf.fr
  have f3 := hf.gd
  have f4 := hf.pc
  have f5 := hf.wc
  have e0 : F 0 = M 0 := hR.1.1
  have e1 : F 1 = M 1 := hR.1.2.1
  have e2 : F 2 = M 2 := hR.1.2.2.1
  have e3 : F 3 = M 19 := hR.1.2.2.2.1
  have e4 : F 4 = M 32 := hR.1.2.2.2.2
  refine lv_ldc2 (own := RX5) (v := lN 787) hz.1 hz.2.1 hz.2.2.2.1 (hz.2.2.2.2 (.constantLong RX5 227 (787)) (List.mem_of_getElem? (i := 1) rfl)) dX5_digest_0 ?_
  refine lv_lstore_n (lv' := [(1, .long (lN 787)), (0, .ref (a 0))]) hz.1 hz.2.1 dX5_digest_3 rfl hl (by decide) rfl (fun ls hl => ?_)
  refine lv_iconst (v := nI 0) hz.1 hz.2.1 dX5_digest_4 (by decide) ?_
  refine lv_istore_n (lv' := [(3, .int (nI 0)), (1, .long (lN 787)), (0, .ref (a 0))]) hz.1 hz.2.1 dX5_digest_5 rfl hl (by decide) rfl (fun ls hl => ?_)
  have lp_6 : ∀ (fu : Nat) (i : Nat), (i ≤ 6) → 6 - i < fu → ∀ ls : Array Slot, lv_has ls 4 [(0, .ref (a 0)), (1, .long (lN (sSums (sCount M (X 0)) 787 i))), (3, .int (nI i))] → W p_ l_ e_ ({ frames := 2, cells := 0, slots := 0, locals := 45 }) s_ m_ [.ref (a 0)].toArray bl_ me_ c_ s_.heap [] 0 0 (MQ bl_ (k2_QcV (.long (lN (sDig M (X 0) (Q 0) (Q 1))))) [.ref (a 0)].toArray s_ 0 0 (fun _ => False)) (F0 m_ 6 ls []) := by
    intro fu
    induction fu with
    | zero => intro i hi hm; exact absurd hm (Nat.not_lt_zero _)
    | succ fu ih6 =>
      intro i hi hm ls hl
      refine lv_iload_n hz.1 hz.2.1 dX5_digest_6 rfl (lv_at hl 2 rfl) ?_
      refine lv_iconst (v := nI 5) hz.1 hz.2.1 dX5_digest_7 (by decide) ?_
      refine jgt (tgt := 30) hz dX5_digest_8 (by decide) (by omega) (by omega) (fun c_8 => ?_) (fun c_8 => ?_)
      · obtain rfl : i = 6 := by omega
        refine lv_aload_n hz.1 hz.2.1 dX5_digest_30 rfl (lv_at hl 0 rfl) ?_
        refine rg (T := TX5) (N := 11) hz hinX5_digest_X5 hK hP 0 rfl rfl 0 (by decide) (List.mem_of_getElem? (i := 3) rfl) rfl (v := .ref (a 1)) rfl dX5_digest_31 ?_
        refine lv_lload_n hz.1 hz.2.1 dX5_digest_34 rfl (lv_at hl 1 rfl) ?_
        refine rdVl (A := wA (ho a C ++ (bw a 1 k F E ++ (tw a k X T ++ (qw a Q))))) (As := [.long (lN (sSums (sCount M (X 0)) 787 6))]) (rest := []) hz (okAm tS sk sv) (c0_digestOn l_ D k a 1 tS sk sv F E M (sSums (sCount M (X 0)) 787 6) hR hf) (cwV 1 hz.2.2.2.2 gX5_digest_X0_digestOn rfl rfl rfl (by decide +kernel) ⟨Nat.le_of_ble_eq_true rfl, Nat.le_of_ble_eq_true rfl⟩) hK hy (hP.sub (ws' := bw a 1 k F E) [1, 2, 3, 4, 5, 6, 7, 8] rfl) (hD.sub (ws' := bw a 1 k F E) [1, 2, 3, 4, 5, 6, 7, 8] (by decide) rfl) hS 0 0 rfl rfl rfl rfl hl.1 rfl (Nat.le_of_ble_eq_true rfl) dX5_digest_35 ⟨Nat.zero_le _, Nat.zero_le _⟩ ?_
        refine lv_lstore_n (lv' := [(1, .long (lN (sSums (fun z_ => M (33 + z_)) (sSums (fun z_ => M (20 + z_)) (sWsum M (31 * (sSums (sCount M (X 0)) 787 6) + M 2) (M 0 - 1)) (2 * M 19)) (3 * M 32)))), (0, .ref (a 0)), (3, .int (nI 6))]) hz.1 hz.2.1 dX5_digest_38 rfl hl (by decide) rfl (fun ls hl => ?_)
        refine lv_ldc2 (own := RX5) (v := lN 31) hz.1 hz.2.1 hz.2.2.2.1 (hz.2.2.2.2 (.constantLong RX5 229 (31)) (List.mem_of_getElem? (i := 2) rfl)) dX5_digest_39 ?_
        refine lv_lload_n hz.1 hz.2.1 dX5_digest_42 rfl (lv_at hl 0 rfl) ?_
        refine lv_lmul hz.1 hz.2.1 dX5_digest_43 ?_
        refine toeL (z := lN (31 * (sSums (fun z_ => M (33 + z_)) (sSums (fun z_ => M (20 + z_)) (sWsum M (31 * (sSums (sCount M (X 0)) 787 6) + M 2) (M 0 - 1)) (2 * M 19)) (3 * M 32)))) (lN_mul _ _) ?_
        refine lv_aload_n hz.1 hz.2.1 dX5_digest_44 rfl (lv_at hl 1 rfl) ?_
        refine rg (T := TX5) (N := 11) hz hinX5_digest_X5 hK hP 0 rfl rfl 7 (by decide) (List.mem_of_getElem? (i := 4) rfl) rfl (v := .ref (a 53)) rfl dX5_digest_45 ?_
        refine rg (T := TX2) (N := 2) hz hinX5_digest_X2 hK hP 11 rfl rfl 0 (by decide) (List.mem_of_getElem? (i := 5) rfl) rfl (v := .long (lN (Q 0))) rfl dX5_digest_48 ?_
        refine lv_ladd hz.1 hz.2.1 dX5_digest_51 ?_
        refine toeL (z := lN ((31 * (sSums (fun z_ => M (33 + z_)) (sSums (fun z_ => M (20 + z_)) (sWsum M (31 * (sSums (sCount M (X 0)) 787 6) + M 2) (M 0 - 1)) (2 * M 19)) (3 * M 32))) + (Q 0))) (lN_add _ _) ?_
        refine lv_lstore_n (lv' := [(1, .long (lN ((31 * (sSums (fun z_ => M (33 + z_)) (sSums (fun z_ => M (20 + z_)) (sWsum M (31 * (sSums (sCount M (X 0)) 787 6) + M 2) (M 0 - 1)) (2 * M 19)) (3 * M 32))) + (Q 0)))), (0, .ref (a 0)), (3, .int (nI 6))]) hz.1 hz.2.1 dX5_digest_52 rfl hl (by decide) rfl (fun ls hl => ?_)
        refine lv_ldc2 (own := RX5) (v := lN 31) hz.1 hz.2.1 hz.2.2.2.1 (hz.2.2.2.2 (.constantLong RX5 229 (31)) (List.mem_of_getElem? (i := 2) rfl)) dX5_digest_53 ?_
        refine lv_lload_n hz.1 hz.2.1 dX5_digest_56 rfl (lv_at hl 0 rfl) ?_
        refine lv_lmul hz.1 hz.2.1 dX5_digest_57 ?_
        refine toeL (z := lN (31 * ((31 * (sSums (fun z_ => M (33 + z_)) (sSums (fun z_ => M (20 + z_)) (sWsum M (31 * (sSums (sCount M (X 0)) 787 6) + M 2) (M 0 - 1)) (2 * M 19)) (3 * M 32))) + (Q 0)))) (lN_mul _ _) ?_
        refine lv_aload_n hz.1 hz.2.1 dX5_digest_58 rfl (lv_at hl 1 rfl) ?_
        refine rg (T := TX5) (N := 11) hz hinX5_digest_X5 hK hP 0 rfl rfl 7 (by decide) (List.mem_of_getElem? (i := 4) rfl) rfl (v := .ref (a 53)) rfl dX5_digest_59 ?_
        refine rg (T := TX2) (N := 2) hz hinX5_digest_X2 hK hP 11 rfl rfl 1 (by decide) (List.mem_of_getElem? (i := 6) rfl) rfl (v := .long (lN (Q 1))) rfl dX5_digest_62 ?_
        refine lv_ladd hz.1 hz.2.1 dX5_digest_65 ?_
        refine toeL (z := lN ((31 * ((31 * (sSums (fun z_ => M (33 + z_)) (sSums (fun z_ => M (20 + z_)) (sWsum M (31 * (sSums (sCount M (X 0)) 787 6) + M 2) (M 0 - 1)) (2 * M 19)) (3 * M 32))) + (Q 0))) + (Q 1))) (lN_add _ _) ?_
        exact rd_lret hz hr hlk dX5_digest_66 (rfl)
      · have hc := sCount_lt hf hX i
        refine lv_ldc2 (own := RX5) (v := lN 31) hz.1 hz.2.1 hz.2.2.2.1 (hz.2.2.2.2 (.constantLong RX5 229 (31)) (List.mem_of_getElem? (i := 2) rfl)) dX5_digest_11 ?_
        refine lv_lload_n hz.1 hz.2.1 dX5_digest_14 rfl (lv_at hl 1 rfl) ?_
        refine lv_lmul hz.1 hz.2.1 dX5_digest_15 ?_
        refine toeL (z := lN (31 * (sSums (sCount M (X 0)) 787 i))) (lN_mul _ _) ?_
        refine lv_aload_n hz.1 hz.2.1 dX5_digest_16 rfl (lv_at hl 0 rfl) ?_
        refine lv_iload_n hz.1 hz.2.1 dX5_digest_17 rfl (lv_at hl 2 rfl) ?_
        refine rdV (A := wA (ho a C ++ (bw a 1 k F E ++ (tw a k X T ++ (qw a Q))))) (As := [.int (nI i)]) (rest := [.long (lN (31 * (sSums (sCount M (X 0)) 787 i)))]) hz (okAm tS sk sv) (c5_count_ok l_ D k a tS sk sv C F E X T M i hR hf (by omega)) (cwV 1 hz.2.2.2.2 gX5_digest_X5_count rfl rfl rfl (by decide +kernel) ⟨Nat.le_of_ble_eq_true rfl, Nat.le_of_ble_eq_true rfl⟩) hK hy (hP.sub (ws' := ho a C ++ (bw a 1 k F E ++ (tw a k X T))) [0, 1, 2, 3, 4, 5, 6, 7, 8, 9, 10] rfl) (hD.sub (ws' := ho a C ++ (bw a 1 k F E ++ (tw a k X T))) [0, 1, 2, 3, 4, 5, 6, 7, 8, 9, 10] (by decide) rfl) hS 0 5 rfl rfl rfl rfl hl.1 rfl (Nat.le_of_ble_eq_true rfl) dX5_digest_18 ⟨Nat.zero_le _, Nat.zero_le _⟩ ?_
        refine lv_i2l (v := lN (sCount M (X 0) i)) hz.1 hz.2.1 dX5_digest_21 (nI_l (by omega)) ?_
        refine lv_ladd hz.1 hz.2.1 dX5_digest_22 ?_
        refine toeL (z := lN ((31 * (sSums (sCount M (X 0)) 787 i)) + (sCount M (X 0) i))) (lN_add _ _) ?_
        refine toeL (z := lN (sSums (sCount M (X 0)) 787 (i + 1))) (rfl) ?_
        refine lv_lstore_n (lv' := [(1, .long (lN (sSums (sCount M (X 0)) 787 (i + 1)))), (0, .ref (a 0)), (3, .int (nI i))]) hz.1 hz.2.1 dX5_digest_23 rfl hl (by decide) rfl (fun ls hl => ?_)
        refine lv_iinc (v := nI (i + 1)) (lv' := [(3, .int (nI (i + 1))), (1, .long (lN (sSums (sCount M (X 0)) 787 (i + 1)))), (0, .ref (a 0))]) hz.1 hz.2.1 dX5_digest_24 hl (k := 2) rfl (nI_add _ 1) (by decide) rfl (fun ls hl => ?_)
        refine lv_goto (tgt := 6) hz.1 hz.2.1 dX5_digest_27 (by decide) ?_
        exact ih6 (i + 1) (by omega) (by omega) ls (lv_sub hl [2, 1, 0] rfl)
  exact lp_6 _ 0 (by omega) (Nat.lt_succ_self _) ls (lv_sub hl [2, 1, 0] rfl)

theorem hinX4_learnReaches_X4 : ∀ w ∈ wsX40, w ∈ wsX4_learnReaches := fun _ h => List.mem_cons_of_mem _ (List.mem_append_left _ (List.mem_append_right _ h))
theorem hinX4_learnReaches_X0 : ∀ w ∈ wsX00, w ∈ wsX4_learnReaches := fun _ h => List.mem_cons_of_mem _ (List.mem_append_right _ h)
set_option maxHeartbeats 4000000 in
set_option maxRecDepth 100000 in
theorem c4_learnReaches (l_ : Launch) (D : va_G) (k : Nat → ClassId) (a : Nat → Nat) (tS : Nat) (sk sv : Nat → Nat) (Z : Nat → Int32) (S : Nat → Nat) (Rr : Nat → Nat) (F : Nat → Nat) (E : Nat → Nat → Nat) (M : Nat → Nat)  (hR : Rb M F E) (hf : Wf M) : Met l_ yX4_learnReaches wsX4_learnReaches ({ frames := 3, cells := 0, slots := 0, locals := 67 }) (va_Pc [.ref (a 37), .ref (a 1)] (wH (Am tS sk sv) D k (ww a k Z S Rr ++ (bw a 1 k F E)))) (va_Qv (fun (u : Unit) => True) (fun (u : Unit) (t_ : State) => va_P D vwCl ((fun (_ : Unit) => ww a k Z (nset S 0 (fb_ct (kSt M) (M 0 - 1))) (lrR M Rr (M 0 - 1)) ++ (bw a 1 k F E)) u) t_.heap) (wA (ww a k Z S Rr ++ (bw a 1 k F E)))) 0 0 (wA (ww a k Z S Rr ++ (bw a 1 k F E))) := by
  refine my_entry (cc := cX4_learnReaches) (maxL := 3) (ret := none) (by decide) rfl (Nat.le_of_ble_eq_true rfl) ?_
  intro p_ e_ s_ m_ bl_ me_ c_ hz hr hlk hB ls hl
  obtain ⟨hP, hK, hD0, hy⟩ := hB
  have hD := wA.self hD0
  have hS : va_S (wA (ww a k Z S Rr ++ (bw a 1 k F E))) s_.heap s_.heap [] := va_S.rf
  have hl : lv_has ls 3 [(0, .ref (a 37)), (1, .ref (a 1))] := hl
  have f0 := hf.n2
  have f1 := hf.n9
  have f2 := hf.fr
  have f3 := hf.gd
  have f4 := hf.pc
  have f5 := hf.wc
  refine lv_aload_n hz.1 hz.2.1 dX4_learnReaches_0 rfl (lv_at hl 0 rfl) ?_
  refine lv_iconst (v := nI 0) hz.1 hz.2.1 dX4_learnReaches_1 (by decide) ?_
  refine rput (v := .int (nI 0)) (ty := .int) (T := TX4) (N := 4) hz hinX4_learnReaches_X4 tyX4 tyX4_ok nmX4 hK hP hD hS 0 rfl rfl 3 (by decide) (List.mem_of_getElem? (i := 1) rfl) rfl rfl (by decide +kernel) rfl rfl (Nat.le_of_ble_eq_true rfl) dX4_learnReaches_2 (fun H locs hP hS => ?_)
  have hP : va_P D vwCl (ww a k Z (nset S 0 0) Rr ++ (bw a 1 k F E)) H := hP
  have hD : va_D (wA (ww a k Z S Rr ++ (bw a 1 k F E))) (ww a k Z (nset S 0 0) Rr ++ (bw a 1 k F E)) := hD.same rfl
  refine lv_iconst (v := nI 0) hz.1 hz.2.1 dX4_learnReaches_5 (by decide) ?_
  refine lv_istore_n (lv' := [(2, .int (nI 0)), (0, .ref (a 37)), (1, .ref (a 1))]) hz.1 hz.2.1 dX4_learnReaches_6 rfl hl (by decide) rfl (fun ls hl => ?_)
  have lp_7 : ∀ (fu : Nat) (w : Nat), (w ≤ M 0 - 1) → M 0 - 1 - w < fu → ∀ ls : Array Slot, ∀ (H : Heap) (locs : List Loc), va_P D vwCl (ww a k Z (nset S 0 (fb_ct (kSt M) w)) (lrR M Rr w) ++ (bw a 1 k F E)) H → va_S (wA (ww a k Z S Rr ++ (bw a 1 k F E))) s_.heap H locs → lv_has ls 3 [(0, .ref (a 37)), (1, .ref (a 1)), (2, .int (nI w))] → W p_ l_ e_ ({ frames := 3, cells := 0, slots := 0, locals := 67 }) s_ m_ [.ref (a 37), .ref (a 1)].toArray bl_ me_ c_ H locs 0 0 (MQ bl_ (va_Qv (fun (u : Unit) => True) (fun (u : Unit) (t_ : State) => va_P D vwCl ((fun (_ : Unit) => ww a k Z (nset S 0 (fb_ct (kSt M) (M 0 - 1))) (lrR M Rr (M 0 - 1)) ++ (bw a 1 k F E)) u) t_.heap) (wA (ww a k Z S Rr ++ (bw a 1 k F E)))) [.ref (a 37), .ref (a 1)].toArray s_ 0 0 (wA (ww a k Z S Rr ++ (bw a 1 k F E)))) (F0 m_ 7 ls []) := by
    intro fu
    induction fu with
    | zero => intro w hw hm; exact absurd hm (Nat.not_lt_zero _)
    | succ fu ih7 =>
      intro w hw hm ls H locs hP hS hl
      have hD : va_D (wA (ww a k Z S Rr ++ (bw a 1 k F E))) (ww a k Z (nset S 0 (fb_ct (kSt M) w)) (lrR M Rr w) ++ (bw a 1 k F E)) := hD.same rfl
      refine lv_iload_n hz.1 hz.2.1 dX4_learnReaches_7 rfl (lv_at hl 2 rfl) ?_
      refine lv_aload_n hz.1 hz.2.1 dX4_learnReaches_8 rfl (lv_at hl 1 rfl) ?_
      refine rdV (A := wA (ww a k Z S Rr ++ (bw a 1 k F E))) (As := []) (rest := [.int (nI w)]) hz (okAm tS sk sv) (c0_wireCount l_ D k a 1 tS sk sv F E M  hR hf) (cwV 0 hz.2.2.2.2 gX4_learnReaches_X0_wireCount rfl rfl rfl (by decide +kernel) ⟨Nat.le_of_ble_eq_true rfl, Nat.le_of_ble_eq_true rfl⟩) hK hy (hP.sub (ws' := bw a 1 k F E) [2, 3, 4, 5, 6, 7, 8, 9] rfl) (hD.sub (ws' := bw a 1 k F E) [2, 3, 4, 5, 6, 7, 8, 9] (by decide) rfl) hS 0 0 rfl rfl rfl rfl hl.1 rfl (Nat.le_of_ble_eq_true rfl) dX4_learnReaches_9 ⟨Nat.zero_le _, Nat.zero_le _⟩ ?_
      refine jge (tgt := 58) hz dX4_learnReaches_12 (by decide) (by omega) (by omega) (fun c_12 => ?_) (fun c_12 => ?_)
      · obtain rfl : w = M 0 - 1 := by omega
        exact wr_vret hz hr hlk dX4_learnReaches_58 hS (()) hP (trivial)
      · have c1 := fb_ct_le (kSt M) w
        refine lv_aload_n hz.1 hz.2.1 dX4_learnReaches_15 rfl (lv_at hl 1 rfl) ?_
        refine lv_iload_n hz.1 hz.2.1 dX4_learnReaches_16 rfl (lv_at hl 2 rfl) ?_
        refine rdV (A := wA (ww a k Z S Rr ++ (bw a 1 k F E))) (As := [.int (nI w)]) (rest := []) hz (okAm tS sk sv) (c0_isCut l_ D k a 1 tS sk sv F E M w hR hf (by omega)) (cwV 1 hz.2.2.2.2 gX4_learnReaches_X0_isCut rfl rfl rfl (by decide +kernel) ⟨Nat.le_of_ble_eq_true rfl, Nat.le_of_ble_eq_true rfl⟩) hK hy (hP.sub (ws' := bw a 1 k F E) [2, 3, 4, 5, 6, 7, 8, 9] rfl) (hD.sub (ws' := bw a 1 k F E) [2, 3, 4, 5, 6, 7, 8, 9] (by decide) rfl) hS 0 0 rfl rfl rfl rfl hl.1 rfl (Nat.le_of_ble_eq_true rfl) dX4_learnReaches_17 ⟨Nat.zero_le _, Nat.zero_le _⟩ ?_
        refine zne (tgt := 52) hz dX4_learnReaches_20 (by decide) (fun c_20 => ?_) (fun c_20 => ?_)
        · refine lv_iinc (v := nI (w + 1)) (lv' := [(2, .int (nI (w + 1))), (0, .ref (a 37)), (1, .ref (a 1))]) hz.1 hz.2.1 dX4_learnReaches_52 hl (k := 2) rfl (nI_add _ 1) (by decide) rfl (fun ls hl => ?_)
          refine lv_goto (tgt := 7) hz.1 hz.2.1 dX4_learnReaches_55 (by decide) ?_
          have g1 : fb_ct (kSt M) (w + 1) = fb_ct (kSt M) w := fb_ct0 (by simp [kSt, c_20])
          have g2 : lrR M Rr (w + 1) = lrR M Rr w := by simp [lrR, kSt, c_20]
          have hP : va_P D vwCl (ww a k Z (nset S 0 (fb_ct (kSt M) (w + 1))) (lrR M Rr (w + 1)) ++ (bw a 1 k F E)) H := by rw [g1, g2]; exact hP
          exact ih7 (w + 1) (by omega) (by omega) ls H locs hP hS (lv_sub hl [1, 2, 0] rfl)
        · refine lv_aload_n hz.1 hz.2.1 dX4_learnReaches_23 rfl (lv_at hl 0 rfl) ?_
          refine rg (T := TX4) (N := 4) hz hinX4_learnReaches_X4 hK hP 0 rfl rfl 2 (by decide) (List.mem_of_getElem? (i := 2) rfl) rfl (v := .ref (a 38)) rfl dX4_learnReaches_24 ?_
          refine lv_aload_n hz.1 hz.2.1 dX4_learnReaches_27 rfl (lv_at hl 0 rfl) ?_
          refine rg (T := TX4) (N := 4) hz hinX4_learnReaches_X4 hK hP 0 rfl rfl 3 (by decide) (List.mem_of_getElem? (i := 1) rfl) rfl (v := .int (nI (fb_ct (kSt M) w))) rfl dX4_learnReaches_28 ?_
          refine lv_aload_n hz.1 hz.2.1 dX4_learnReaches_31 rfl (lv_at hl 1 rfl) ?_
          refine lv_iload_n hz.1 hz.2.1 dX4_learnReaches_32 rfl (lv_at hl 2 rfl) ?_
          refine rgsN hz hy hS (List.mem_of_getElem? (i := 1) rfl) dX4_learnReaches_33 ?_
          refine lv_iconst (v := nI 0) hz.1 hz.2.1 dX4_learnReaches_36 (by decide) ?_
          refine rti hz hy hS (by omega) dX4_learnReaches_37 ?_
          refine toe (z := nI 1) rfl ?_
          refine rdV (A := wA (ww a k Z S Rr ++ (bw a 1 k F E))) (As := [.int (nI w), .int (nI 1)]) (rest := [.int (nI (fb_ct (kSt M) w)), .ref (a 38)]) hz (okAm tS sk sv) (c0_reach l_ D k a 1 tS sk sv F E M w 1 hR hf (by omega) (by omega) (by omega)) (cwV 2 hz.2.2.2.2 gX4_learnReaches_X0_reach rfl rfl rfl (by decide +kernel) ⟨Nat.le_of_ble_eq_true rfl, Nat.le_of_ble_eq_true rfl⟩) hK hy (hP.sub (ws' := bw a 1 k F E) [2, 3, 4, 5, 6, 7, 8, 9] rfl) (hD.sub (ws' := bw a 1 k F E) [2, 3, 4, 5, 6, 7, 8, 9] (by decide) rfl) hS 0 0 rfl rfl rfl rfl hl.1 rfl (Nat.le_of_ble_eq_true rfl) dX4_learnReaches_38 ⟨Nat.zero_le _, Nat.zero_le _⟩ ?_
          refine rast hz hK hP hD hS 1 0 rfl rfl (i := (fb_ct (kSt M) w)) (v := (sReach M w 1)) (by omega) (by decide) dX4_learnReaches_41 (fun H locs hP hS => ?_)
          have hP : va_P D vwCl (ww a k Z (nset S 0 (fb_ct (kSt M) w)) (nset (lrR M Rr w) (fb_ct (kSt M) w) (sReach M w 1)) ++ (bw a 1 k F E)) H := hP
          have hD : va_D (wA (ww a k Z S Rr ++ (bw a 1 k F E))) (ww a k Z (nset S 0 (fb_ct (kSt M) w)) (nset (lrR M Rr w) (fb_ct (kSt M) w) (sReach M w 1)) ++ (bw a 1 k F E)) := hD.same rfl
          refine lv_aload_n hz.1 hz.2.1 dX4_learnReaches_42 rfl (lv_at hl 0 rfl) ?_
          refine lv_dup hz.1 hz.2.1 dX4_learnReaches_43 rfl ?_
          refine rg (T := TX4) (N := 4) hz hinX4_learnReaches_X4 hK hP 0 rfl rfl 3 (by decide) (List.mem_of_getElem? (i := 1) rfl) rfl (v := .int (nI (fb_ct (kSt M) w))) rfl dX4_learnReaches_44 ?_
          refine lv_iconst (v := nI 1) hz.1 hz.2.1 dX4_learnReaches_47 (by decide) ?_
          refine lv_iadd hz.1 hz.2.1 dX4_learnReaches_48 ?_
          refine toe (z := nI ((fb_ct (kSt M) w) + 1)) (nI_add _ _) ?_
          refine rput (v := .int (nI ((fb_ct (kSt M) w) + 1))) (ty := .int) (T := TX4) (N := 4) hz hinX4_learnReaches_X4 tyX4 tyX4_ok nmX4 hK hP hD hS 0 rfl rfl 3 (by decide) (List.mem_of_getElem? (i := 1) rfl) rfl rfl (by decide +kernel) rfl rfl (Nat.le_of_ble_eq_true rfl) dX4_learnReaches_49 (fun H locs hP hS => ?_)
          have hP : va_P D vwCl (ww a k Z (nset S 0 ((fb_ct (kSt M) w) + 1)) (nset (lrR M Rr w) (fb_ct (kSt M) w) (sReach M w 1)) ++ (bw a 1 k F E)) H := hP
          have hD : va_D (wA (ww a k Z S Rr ++ (bw a 1 k F E))) (ww a k Z (nset S 0 ((fb_ct (kSt M) w) + 1)) (nset (lrR M Rr w) (fb_ct (kSt M) w) (sReach M w 1)) ++ (bw a 1 k F E)) := hD.same rfl
          refine lv_iinc (v := nI (w + 1)) (lv' := [(2, .int (nI (w + 1))), (0, .ref (a 37)), (1, .ref (a 1))]) hz.1 hz.2.1 dX4_learnReaches_52 hl (k := 2) rfl (nI_add _ 1) (by decide) rfl (fun ls hl => ?_)
          refine lv_goto (tgt := 7) hz.1 hz.2.1 dX4_learnReaches_55 (by decide) ?_
          have g1 : fb_ct (kSt M) (w + 1) = fb_ct (kSt M) w + 1 := fb_ct1 (by simp [kSt, c_20])
          have g2 : lrR M Rr (w + 1) = nset (lrR M Rr w) (fb_ct (kSt M) w) (sReach M w 1) := by simp [lrR, kSt, c_20]
          have hP : va_P D vwCl (ww a k Z (nset S 0 (fb_ct (kSt M) (w + 1))) (lrR M Rr (w + 1)) ++ (bw a 1 k F E)) H := by rw [g1, g2]; exact hP
          exact ih7 (w + 1) (by omega) (by omega) ls H locs hP hS (lv_sub hl [1, 2, 0] rfl)
  have hP : va_P D vwCl (ww a k Z (nset S 0 (fb_ct (kSt M) 0)) (lrR M Rr 0) ++ (bw a 1 k F E)) H := hP
  exact lp_7 _ 0 (by omega) (Nat.lt_succ_self _) ls _ _ hP hS (lv_sub hl [1, 2, 0] rfl)

theorem hinX4_covers_X4 : ∀ w ∈ wsX40, w ∈ wsX4_covers := fun _ h => List.mem_cons_of_mem _ (List.mem_append_right _ h)
set_option maxHeartbeats 4000000 in
set_option maxRecDepth 100000 in
theorem c4_covers (l_ : Launch) (D : va_G) (k : Nat → ClassId) (a : Nat → Nat) (tS : Nat) (sk sv : Nat → Nat) (Z : Nat → Int32) (S : Nat → Nat) (Rr : Nat → Nat) (ps kk : Nat) (hs : ps < 1024) (hk : kk < 10) (hS0 : S 0 ≤ 8) (hRr : ∀ i, i < S 0 → Rr i ≤ 512) : Met l_ yX4_covers wsX4_covers ({ frames := 1, cells := 0, slots := 0, locals := 20 }) (va_Pc [.ref (a 37), .int (nI ps), .int (nI kk)] (wH (Am tS sk sv) D k (ww a k Z S Rr))) (QcRead (bI (sAll (kCv Rr ps kk) (S 0)))) 0 0 (fun _ => False) := by
  refine my_entry (cc := cX4_covers) (maxL := 4) (ret := some .boolean) (by decide) rfl (Nat.le_of_ble_eq_true rfl) ?_
  intro p_ e_ s_ m_ bl_ me_ c_ hz hr hlk hB ls hl
  obtain ⟨hP, hK, hD0, hy⟩ := hB
  have hD := wA.self hD0
  have hS : va_S (wA (ww a k Z S Rr)) s_.heap s_.heap [] := va_S.rf
  have hl : lv_has ls 4 [(0, .ref (a 37)), (1, .int (nI ps)), (2, .int (nI kk))] := hl
  refine lv_iconst (v := nI 0) hz.1 hz.2.1 dX4_covers_0 (by decide) ?_
  refine lv_istore_n (lv' := [(3, .int (nI 0)), (0, .ref (a 37)), (1, .int (nI ps)), (2, .int (nI kk))]) hz.1 hz.2.1 dX4_covers_1 rfl hl (by decide) rfl (fun ls hl => ?_)
  have lp_2 : ∀ (fu : Nat) (i : Nat), (i ≤ S 0) → (sAll (kCv Rr ps kk) i = true) → S 0 - i < fu → ∀ ls : Array Slot, lv_has ls 4 [(0, .ref (a 37)), (1, .int (nI ps)), (2, .int (nI kk)), (3, .int (nI i))] → W p_ l_ e_ ({ frames := 1, cells := 0, slots := 0, locals := 20 }) s_ m_ [.ref (a 37), .int (nI ps), .int (nI kk)].toArray bl_ me_ c_ s_.heap [] 0 0 (MQ bl_ (QcRead (bI (sAll (kCv Rr ps kk) (S 0)))) [.ref (a 37), .int (nI ps), .int (nI kk)].toArray s_ 0 0 (fun _ => False)) (F0 m_ 2 ls []) := by
    intro fu
    induction fu with
    | zero => intro i hi hn hm; exact absurd hm (Nat.not_lt_zero _)
    | succ fu ih2 =>
      intro i hi hn hm ls hl
      refine lv_iload_n hz.1 hz.2.1 dX4_covers_2 rfl (lv_at hl 3 rfl) ?_
      refine lv_aload_n hz.1 hz.2.1 dX4_covers_3 rfl (lv_at hl 0 rfl) ?_
      refine rg (T := TX4) (N := 4) hz hinX4_covers_X4 hK hP 0 rfl rfl 3 (by decide) (List.mem_of_getElem? (i := 1) rfl) rfl (v := .int (nI (S 0))) rfl dX4_covers_4 ?_
      refine jge (tgt := 33) hz dX4_covers_7 (by decide) (by omega) (by omega) (fun c_7 => ?_) (fun c_7 => ?_)
      · obtain rfl : i = S 0 := by omega
        refine lv_iconst (v := nI 1) hz.1 hz.2.1 dX4_covers_33 (by decide) ?_
        exact rd_zret hz hr hlk dX4_covers_34 (bI_1 hn)
      · have r1 := hRr i c_7
        have r2 : Rr i &&& ps ≤ Rr i := Nat.and_le_left
        have r3 := sPop_le (Rr i &&& ps)
        refine lv_aload_n hz.1 hz.2.1 dX4_covers_10 rfl (lv_at hl 0 rfl) ?_
        refine rg (T := TX4) (N := 4) hz hinX4_covers_X4 hK hP 0 rfl rfl 2 (by decide) (List.mem_of_getElem? (i := 2) rfl) rfl (v := .ref (a 38)) rfl dX4_covers_11 ?_
        refine lv_iload_n hz.1 hz.2.1 dX4_covers_14 rfl (lv_at hl 3 rfl) ?_
        refine rald hz hK hP 1 0 rfl rfl (i := i) (by omega) (by decide) (v := nI (Rr i)) rfl dX4_covers_15 ?_
        refine lv_iload_n hz.1 hz.2.1 dX4_covers_16 rfl (lv_at hl 1 rfl) ?_
        refine lv_iand hz.1 hz.2.1 dX4_covers_17 ?_
        refine toe (z := nI ((Rr i) &&& ps)) (fa_and _ _) ?_
        refine rdS (As := [.int (nI ((Rr i) &&& ps))]) (rest := []) hz (cJ_bit l_ ((Rr i) &&& ps) (by omega)) rfl (va_cwS 1 hz.2.2.2.2 gX4_covers_J6_bitCount_0f7a4 rfl rfl rfl (by decide +kernel) ⟨Nat.le_of_ble_eq_true rfl, Nat.le_of_ble_eq_true rfl⟩) rfl hl.1 rfl (Nat.le_of_ble_eq_true rfl) dX4_covers_18 ⟨Nat.zero_le _, Nat.zero_le _⟩ ?_
        refine lv_iload_n hz.1 hz.2.1 dX4_covers_21 rfl (lv_at hl 2 rfl) ?_
        refine jge (tgt := 27) hz dX4_covers_22 (by decide) (by omega) (by omega) (fun c_22 => ?_) (fun c_22 => ?_)
        · refine lv_iinc (v := nI (i + 1)) (lv' := [(3, .int (nI (i + 1))), (0, .ref (a 37)), (1, .int (nI ps)), (2, .int (nI kk))]) hz.1 hz.2.1 dX4_covers_27 hl (k := 3) rfl (nI_add _ 1) (by decide) rfl (fun ls hl => ?_)
          refine lv_goto (tgt := 2) hz.1 hz.2.1 dX4_covers_30 (by decide) ?_
          exact ih2 (i + 1) (by omega) (by simp [sAll, hn, kCv]; omega) (by omega) ls (lv_sub hl [1, 2, 3, 0] rfl)
        · refine lv_iconst (v := nI 0) hz.1 hz.2.1 dX4_covers_25 (by decide) ?_
          exact rd_zret hz hr hlk dX4_covers_26 (bI_0 (sAll_no9 (i := i) (by simp [kCv]; omega) _ c_7))
  exact lp_2 _ 0 (by omega) (rfl) (Nat.lt_succ_self _) ls (lv_sub hl [1, 2, 3, 0] rfl)

theorem hinX4_fewestGuards_X0 : ∀ w ∈ wsX00, w ∈ wsX4_fewestGuards := fun _ h => List.mem_cons_of_mem _ (List.mem_append_left _ (List.mem_append_right _ h))
theorem hinX4_fewestGuards_X4 : ∀ w ∈ wsX40, w ∈ wsX4_fewestGuards := fun _ h => List.mem_cons_of_mem _ (List.mem_append_right _ h)
set_option maxHeartbeats 4000000 in
set_option maxRecDepth 100000 in
theorem c4_fewestGuards (l_ : Launch) (D : va_G) (k : Nat → ClassId) (a : Nat → Nat) (tS : Nat) (sk sv : Nat → Nat) (Z : Nat → Int32) (S : Nat → Nat) (Rr : Nat → Nat) (F : Nat → Nat) (E : Nat → Nat → Nat) (M : Nat → Nat) (kk : Nat) (hR : Rb M F E) (hf : Wf M) (h1 : 1 ≤ kk) (h2 : kk ≤ 3) : Met l_ yX4_fewestGuards wsX4_fewestGuards ({ frames := 4, cells := 0, slots := 0, locals := 89 }) (va_Pc [.ref (a 37), .ref (a 1), .int (nI kk)] (wH (Am tS sk sv) D k (ww a k Z S Rr ++ (bw a 1 k F E)))) (va_Qi (fun (r : Int32) (u : Unit) => r = oI (sCover M kk)) (fun (u : Unit) (t_ : State) => va_P D vwCl ((fun (_ : Unit) => ww a k Z (nset S 0 (fb_ct (kSt M) (M 0 - 1))) (lrR M Rr (M 0 - 1)) ++ (bw a 1 k F E)) u) t_.heap) (wA (ww a k Z S Rr ++ (bw a 1 k F E)))) 0 0 (wA (ww a k Z S Rr ++ (bw a 1 k F E))) := by
  refine my_entry (cc := cX4_fewestGuards) (maxL := 8) (ret := some .int) (by decide) rfl (Nat.le_of_ble_eq_true rfl) ?_
  intro p_ e_ s_ m_ bl_ me_ c_ hz hr hlk hB ls hl
  obtain ⟨hP, hK, hD0, hy⟩ := hB
  have hD := wA.self hD0
  have hS : va_S (wA (ww a k Z S Rr ++ (bw a 1 k F E))) s_.heap s_.heap [] := va_S.rf
  have hl : lv_has ls 8 [(0, .ref (a 37)), (1, .ref (a 1)), (2, .int (nI kk))] := hl
  have f0 := hf.n2
  have f1 := hf.n9
  have f2 := hf.fr
  have f3 := hf.gd
  have f4 := hf.pc
  have f5 := hf.wc
  have f6 : 2 ^ M 0 ≤ 2 ^ 9 := Nat.pow_le_pow_right (by decide) f1
  have f7 : 2 ^ 9 = 512 := by decide
  have f8 : 0 < 2 ^ M 0 := Nat.two_pow_pos _
  have c1 := fb_ct_le (kSt M) (M 0 - 1)
  refine lv_aload_n hz.1 hz.2.1 dX4_fewestGuards_0 rfl (lv_at hl 0 rfl) ?_
  refine lv_aload_n hz.1 hz.2.1 dX4_fewestGuards_1 rfl (lv_at hl 1 rfl) ?_
  refine wrVv (A := wA (ww a k Z S Rr ++ (bw a 1 k F E))) (As := [.ref (a 1)]) (rest := []) hz (okAm tS sk sv) (c4_learnReaches l_ D k a tS sk sv Z S Rr F E M  hR hf) (cwV 1 hz.2.2.2.2 gX4_fewestGuards_X4_learnReaches rfl rfl rfl (by decide +kernel) ⟨Nat.le_of_ble_eq_true rfl, Nat.le_of_ble_eq_true rfl⟩) hK hy hP hD hS 0 4 rfl rfl rfl rfl hl.1 rfl (Nat.le_of_ble_eq_true rfl) dX4_fewestGuards_2 ⟨Nat.zero_le _, Nat.zero_le _⟩ (fun u H1 locs hp hP1 hS hfr => ?_)
  have hP : va_P D vwCl (ww a k Z (nset S 0 (fb_ct (kSt M) (M 0 - 1))) (lrR M Rr (M 0 - 1)) ++ (bw a 1 k F E)) H1 := hP1
  generalize H1 = H at hP hS ⊢
  have hD : va_D (wA (ww a k Z S Rr ++ (bw a 1 k F E))) (ww a k Z (nset S 0 (fb_ct (kSt M) (M 0 - 1))) (lrR M Rr (M 0 - 1)) ++ (bw a 1 k F E)) := hD.same rfl
  refine lv_iconst (v := nI 1) hz.1 hz.2.1 dX4_fewestGuards_5 (by decide) ?_
  refine lv_aload_n hz.1 hz.2.1 dX4_fewestGuards_6 rfl (lv_at hl 1 rfl) ?_
  refine rg (T := TX0) (N := 12) hz hinX4_fewestGuards_X0 hK hP 2 rfl rfl 0 (by decide) (List.mem_of_getElem? (i := 1) rfl) rfl (v := .int (nI (F 0))) rfl dX4_fewestGuards_7 ?_
  refine toe (z := nI (M 0)) (by rw [hR.1.1]) ?_
  refine lv_ishl hz.1 hz.2.1 dX4_fewestGuards_10 ?_
  refine toe (z := nI (2 ^ (M 0))) (nI_shl1 (by omega)) ?_
  refine lv_iconst (v := nI 1) hz.1 hz.2.1 dX4_fewestGuards_11 (by decide) ?_
  refine lv_isub hz.1 hz.2.1 dX4_fewestGuards_12 ?_
  refine toe (z := nI ((2 ^ (M 0)) - 1)) (pk_sub (by omega)) ?_
  refine lv_istore_n (lv' := [(3, .int (nI ((2 ^ (M 0)) - 1))), (0, .ref (a 37)), (1, .ref (a 1)), (2, .int (nI kk))]) hz.1 hz.2.1 dX4_fewestGuards_13 rfl hl (by decide) rfl (fun ls hl => ?_)
  refine lv_aload_n hz.1 hz.2.1 dX4_fewestGuards_14 rfl (lv_at hl 1 rfl) ?_
  refine lv_iload_n hz.1 hz.2.1 dX4_fewestGuards_15 rfl (lv_at hl 0 rfl) ?_
  refine lv_iload_n hz.1 hz.2.1 dX4_fewestGuards_16 rfl (lv_at hl 3 rfl) ?_
  refine rdV (A := wA (ww a k Z S Rr ++ (bw a 1 k F E))) (As := [.int (nI ((2 ^ (M 0)) - 1)), .int (nI kk)]) (rest := []) hz (okAm tS sk sv) (c4_covers l_ D k a tS sk sv Z (nset S 0 (fb_ct (kSt M) (M 0 - 1))) (lrR M Rr (M 0 - 1)) ((2 ^ (M 0)) - 1) kk (by omega) (by omega) (show fb_ct (kSt M) (M 0 - 1) ≤ 8 by omega) (fun i hi => lrR_le hf Rr _ i hi)) (cwV 2 hz.2.2.2.2 gX4_fewestGuards_X4_covers rfl rfl rfl (by decide +kernel) ⟨Nat.le_of_ble_eq_true rfl, Nat.le_of_ble_eq_true rfl⟩) hK hy (hP.sub (ws' := ww a k Z (nset S 0 (fb_ct (kSt M) (M 0 - 1))) (lrR M Rr (M 0 - 1))) [0, 1] rfl) (hD.sub (ws' := ww a k Z (nset S 0 (fb_ct (kSt M) (M 0 - 1))) (lrR M Rr (M 0 - 1))) [0, 1] (by decide) rfl) hS 0 4 rfl rfl rfl rfl hl.1 rfl (Nat.le_of_ble_eq_true rfl) dX4_fewestGuards_17 ⟨Nat.zero_le _, Nat.zero_le _⟩ ?_
  refine toe (z := bI (sCovers M (2 ^ M 0 - 1) kk)) (congrArg bI (lr_cov hf Rr _ _ _ (Nat.le_refl _))) ?_
  refine zne (tgt := 25) hz dX4_fewestGuards_20 (by decide) (fun c_20 => ?_) (fun c_20 => ?_)
  · refine lv_iload_n hz.1 hz.2.1 dX4_fewestGuards_25 rfl (lv_at hl 0 rfl) ?_
    refine toe (z := nI (kBst (sCov (fun z_ => sCovers M z_ kk) 0) (2 ^ M 0 - 1))) (rfl) ?_
    refine lv_istore (lv' := [(4, .int (nI (kBst (sCov (fun z_ => sCovers M z_ kk) 0) (2 ^ M 0 - 1)))), (3, .int (nI ((2 ^ (M 0)) - 1))), (0, .ref (a 37)), (1, .ref (a 1)), (2, .int (nI kk))]) hz.1 hz.2.1 dX4_fewestGuards_26 hl (by decide) rfl (fun ls hl => ?_)
    refine lv_aload_n hz.1 hz.2.1 dX4_fewestGuards_28 rfl (lv_at hl 3 rfl) ?_
    refine rg (T := TX0) (N := 12) hz hinX4_fewestGuards_X0 hK hP 2 rfl rfl 0 (by decide) (List.mem_of_getElem? (i := 1) rfl) rfl (v := .int (nI (F 0))) rfl dX4_fewestGuards_29 ?_
    refine toe (z := nI (M 0)) (by rw [hR.1.1]) ?_
    refine toe (z := nI (sPop (kBst (sCov (fun z_ => sCovers M z_ kk) 0) (2 ^ M 0 - 1)))) (by rw [show kBst (sCov (fun z_ => sCovers M z_ kk) 0) (2 ^ M 0 - 1) = (2 ^ M 0 - 1) from rfl, sPop_all]) ?_
    refine lv_istore (lv' := [(5, .int (nI (sPop (kBst (sCov (fun z_ => sCovers M z_ kk) 0) (2 ^ M 0 - 1))))), (4, .int (nI (kBst (sCov (fun z_ => sCovers M z_ kk) 0) (2 ^ M 0 - 1)))), (3, .int (nI ((2 ^ (M 0)) - 1))), (0, .ref (a 37)), (1, .ref (a 1)), (2, .int (nI kk))]) hz.1 hz.2.1 dX4_fewestGuards_32 hl (by decide) rfl (fun ls hl => ?_)
    refine lv_iconst (v := nI 0) hz.1 hz.2.1 dX4_fewestGuards_34 (by decide) ?_
    refine lv_istore (lv' := [(6, .int (nI 0)), (5, .int (nI (sPop (kBst (sCov (fun z_ => sCovers M z_ kk) 0) (2 ^ M 0 - 1))))), (4, .int (nI (kBst (sCov (fun z_ => sCovers M z_ kk) 0) (2 ^ M 0 - 1)))), (3, .int (nI ((2 ^ (M 0)) - 1))), (0, .ref (a 37)), (1, .ref (a 1)), (2, .int (nI kk))]) hz.1 hz.2.1 dX4_fewestGuards_35 hl (by decide) rfl (fun ls hl => ?_)
    have lp_37 : ∀ (fu : Nat) (s : Nat), (s ≤ 2 ^ M 0 - 1) → 2 ^ M 0 - 1 - s < fu → ∀ ls : Array Slot, lv_has ls 8 [(0, .ref (a 37)), (1, .ref (a 1)), (2, .int (nI kk)), (3, .int (nI (2 ^ M 0 - 1))), (4, .int (nI (kBst (sCov (fun z_ => sCovers M z_ kk) s) (2 ^ M 0 - 1)))), (5, .int (nI (sPop (kBst (sCov (fun z_ => sCovers M z_ kk) s) (2 ^ M 0 - 1))))), (6, .int (nI s))] → W p_ l_ e_ ({ frames := 4, cells := 0, slots := 0, locals := 89 }) s_ m_ [.ref (a 37), .ref (a 1), .int (nI kk)].toArray bl_ me_ c_ H locs 0 0 (MQ bl_ (va_Qi (fun (r : Int32) (u : Unit) => r = oI (sCover M kk)) (fun (u : Unit) (t_ : State) => va_P D vwCl ((fun (_ : Unit) => ww a k Z (nset S 0 (fb_ct (kSt M) (M 0 - 1))) (lrR M Rr (M 0 - 1)) ++ (bw a 1 k F E)) u) t_.heap) (wA (ww a k Z S Rr ++ (bw a 1 k F E)))) [.ref (a 37), .ref (a 1), .int (nI kk)].toArray s_ 0 0 (wA (ww a k Z S Rr ++ (bw a 1 k F E)))) (F0 m_ 37 ls []) := by
      intro fu
      induction fu with
      | zero => intro s hs hm; exact absurd hm (Nat.not_lt_zero _)
      | succ fu ih37 =>
        intro s hs hm ls hl
        refine lv_iload hz.1 hz.2.1 dX4_fewestGuards_37 (lv_at hl 6 rfl) ?_
        refine lv_iload_n hz.1 hz.2.1 dX4_fewestGuards_39 rfl (lv_at hl 3 rfl) ?_
        refine jge (tgt := 81) hz dX4_fewestGuards_40 (by decide) (by omega) (by omega) (fun c_40 => ?_) (fun c_40 => ?_)
        · obtain rfl : s = 2 ^ M 0 - 1 := by omega
          refine lv_iload hz.1 hz.2.1 dX4_fewestGuards_81 (lv_at hl 4 rfl) ?_
          exact wr_iret hz hr hlk dX4_fewestGuards_83 hS (()) hP ((kB_end (C := (fun z_ => sCovers M z_ kk)) c_20).symm)
        · have b1 := sPop_le s
          have b2 := kB_le (C := (fun z_ => sCovers M z_ kk)) (n := M 0) s hs
          have b3 := sPop_le (kBst (sCov (fun z_ => sCovers M z_ kk) s) (2 ^ M 0 - 1))
          refine lv_iload hz.1 hz.2.1 dX4_fewestGuards_43 (lv_at hl 6 rfl) ?_
          refine rdS (As := [.int (nI s)]) (rest := []) hz (cJ_bit l_ s (by omega)) rfl (va_cwS 1 hz.2.2.2.2 gX4_fewestGuards_J6_bitCount_0f7a4 rfl rfl rfl (by decide +kernel) ⟨Nat.le_of_ble_eq_true rfl, Nat.le_of_ble_eq_true rfl⟩) rfl hl.1 rfl (Nat.le_of_ble_eq_true rfl) dX4_fewestGuards_45 ⟨Nat.zero_le _, Nat.zero_le _⟩ ?_
          refine lv_istore (lv' := [(7, .int (nI (sPop s))), (0, .ref (a 37)), (1, .ref (a 1)), (2, .int (nI kk)), (3, .int (nI (2 ^ M 0 - 1))), (4, .int (nI (kBst (sCov (fun z_ => sCovers M z_ kk) s) (2 ^ M 0 - 1)))), (5, .int (nI (sPop (kBst (sCov (fun z_ => sCovers M z_ kk) s) (2 ^ M 0 - 1))))), (6, .int (nI s))]) hz.1 hz.2.1 dX4_fewestGuards_48 hl (by decide) rfl (fun ls hl => ?_)
          refine lv_iload hz.1 hz.2.1 dX4_fewestGuards_50 (lv_at hl 0 rfl) ?_
          refine lv_iload hz.1 hz.2.1 dX4_fewestGuards_52 (lv_at hl 6 rfl) ?_
          refine jge (tgt := 75) hz dX4_fewestGuards_54 (by decide) (by omega) (by omega) (fun c_54 => ?_) (fun c_54 => ?_)
          · have es := kB_0 (C := (fun z_ => sCovers M z_ kk)) c_40 (Or.inl (by omega))
            rw [← es] at hl
            refine lv_iinc (v := nI (s + 1)) (lv' := [(6, .int (nI (s + 1))), (7, .int (nI (sPop s))), (0, .ref (a 37)), (1, .ref (a 1)), (2, .int (nI kk)), (3, .int (nI (2 ^ M 0 - 1))), (4, .int (nI (kBst (sCov (fun z_ => sCovers M z_ kk) (s + 1)) (2 ^ M 0 - 1)))), (5, .int (nI (sPop (kBst (sCov (fun z_ => sCovers M z_ kk) (s + 1)) (2 ^ M 0 - 1)))))]) hz.1 hz.2.1 dX4_fewestGuards_75 hl (k := 7) rfl (nI_add _ 1) (by decide) rfl (fun ls hl => ?_)
            refine lv_goto (tgt := 37) hz.1 hz.2.1 dX4_fewestGuards_78 (by decide) ?_
            exact ih37 (s + 1) (by omega) (by omega) ls (lv_sub hl [2, 3, 4, 5, 6, 7, 0] rfl)
          · refine lv_aload_n hz.1 hz.2.1 dX4_fewestGuards_57 rfl (lv_at hl 1 rfl) ?_
            refine lv_iload hz.1 hz.2.1 dX4_fewestGuards_58 (lv_at hl 7 rfl) ?_
            refine lv_iload_n hz.1 hz.2.1 dX4_fewestGuards_60 rfl (lv_at hl 3 rfl) ?_
            refine rdV (A := wA (ww a k Z S Rr ++ (bw a 1 k F E))) (As := [.int (nI s), .int (nI kk)]) (rest := []) hz (okAm tS sk sv) (c4_covers l_ D k a tS sk sv Z (nset S 0 (fb_ct (kSt M) (M 0 - 1))) (lrR M Rr (M 0 - 1)) s kk (by omega) (by omega) (show fb_ct (kSt M) (M 0 - 1) ≤ 8 by omega) (fun i hi => lrR_le hf Rr _ i hi)) (cwV 2 hz.2.2.2.2 gX4_fewestGuards_X4_covers rfl rfl rfl (by decide +kernel) ⟨Nat.le_of_ble_eq_true rfl, Nat.le_of_ble_eq_true rfl⟩) hK hy (hP.sub (ws' := ww a k Z (nset S 0 (fb_ct (kSt M) (M 0 - 1))) (lrR M Rr (M 0 - 1))) [0, 1] rfl) (hD.sub (ws' := ww a k Z (nset S 0 (fb_ct (kSt M) (M 0 - 1))) (lrR M Rr (M 0 - 1))) [0, 1] (by decide) rfl) hS 0 4 rfl rfl rfl rfl hl.1 rfl (Nat.le_of_ble_eq_true rfl) dX4_fewestGuards_61 ⟨Nat.zero_le _, Nat.zero_le _⟩ ?_
            refine toe (z := bI (sCovers M s kk)) (congrArg bI (lr_cov hf Rr _ _ _ (Nat.le_refl _))) ?_
            refine zeq (tgt := 75) hz dX4_fewestGuards_64 (by decide) (fun c_64 => ?_) (fun c_64 => ?_)
            · have es := kB_0 (C := (fun z_ => sCovers M z_ kk)) c_40 (Or.inr c_64)
              rw [← es] at hl
              refine lv_iinc (v := nI (s + 1)) (lv' := [(6, .int (nI (s + 1))), (7, .int (nI (sPop s))), (0, .ref (a 37)), (1, .ref (a 1)), (2, .int (nI kk)), (3, .int (nI (2 ^ M 0 - 1))), (4, .int (nI (kBst (sCov (fun z_ => sCovers M z_ kk) (s + 1)) (2 ^ M 0 - 1)))), (5, .int (nI (sPop (kBst (sCov (fun z_ => sCovers M z_ kk) (s + 1)) (2 ^ M 0 - 1)))))]) hz.1 hz.2.1 dX4_fewestGuards_75 hl (k := 7) rfl (nI_add _ 1) (by decide) rfl (fun ls hl => ?_)
              refine lv_goto (tgt := 37) hz.1 hz.2.1 dX4_fewestGuards_78 (by decide) ?_
              exact ih37 (s + 1) (by omega) (by omega) ls (lv_sub hl [2, 3, 4, 5, 6, 7, 0] rfl)
            · have es := kB_1 (C := (fun z_ => sCovers M z_ kk)) (n := M 0) (s := s) (by omega) c_64
              refine lv_iload hz.1 hz.2.1 dX4_fewestGuards_67 (lv_at hl 0 rfl) ?_
              refine toe (z := nI (sPop (kBst (sCov (fun z_ => sCovers M z_ kk) (s + 1)) (2 ^ M 0 - 1)))) (by rw [es]) ?_
              refine lv_istore (lv' := [(5, .int (nI (sPop (kBst (sCov (fun z_ => sCovers M z_ kk) (s + 1)) (2 ^ M 0 - 1))))), (7, .int (nI (sPop s))), (0, .ref (a 37)), (1, .ref (a 1)), (2, .int (nI kk)), (3, .int (nI (2 ^ M 0 - 1))), (4, .int (nI (kBst (sCov (fun z_ => sCovers M z_ kk) s) (2 ^ M 0 - 1)))), (6, .int (nI s))]) hz.1 hz.2.1 dX4_fewestGuards_69 hl (by decide) rfl (fun ls hl => ?_)
              refine lv_iload hz.1 hz.2.1 dX4_fewestGuards_71 (lv_at hl 7 rfl) ?_
              refine toe (z := nI (kBst (sCov (fun z_ => sCovers M z_ kk) (s + 1)) (2 ^ M 0 - 1))) (by rw [es]) ?_
              refine lv_istore (lv' := [(4, .int (nI (kBst (sCov (fun z_ => sCovers M z_ kk) (s + 1)) (2 ^ M 0 - 1)))), (5, .int (nI (sPop (kBst (sCov (fun z_ => sCovers M z_ kk) (s + 1)) (2 ^ M 0 - 1))))), (7, .int (nI (sPop s))), (0, .ref (a 37)), (1, .ref (a 1)), (2, .int (nI kk)), (3, .int (nI (2 ^ M 0 - 1))), (6, .int (nI s))]) hz.1 hz.2.1 dX4_fewestGuards_73 hl (by decide) rfl (fun ls hl => ?_)
              refine lv_iinc (v := nI (s + 1)) (lv' := [(6, .int (nI (s + 1))), (4, .int (nI (kBst (sCov (fun z_ => sCovers M z_ kk) (s + 1)) (2 ^ M 0 - 1)))), (5, .int (nI (sPop (kBst (sCov (fun z_ => sCovers M z_ kk) (s + 1)) (2 ^ M 0 - 1))))), (7, .int (nI (sPop s))), (0, .ref (a 37)), (1, .ref (a 1)), (2, .int (nI kk)), (3, .int (nI (2 ^ M 0 - 1)))]) hz.1 hz.2.1 dX4_fewestGuards_75 hl (k := 7) rfl (nI_add _ 1) (by decide) rfl (fun ls hl => ?_)
              refine lv_goto (tgt := 37) hz.1 hz.2.1 dX4_fewestGuards_78 (by decide) ?_
              exact ih37 (s + 1) (by omega) (by omega) ls (lv_sub hl [4, 5, 6, 7, 1, 2, 0] rfl)
    exact lp_37 _ 0 (by omega) (Nat.lt_succ_self _) ls (lv_sub hl [4, 5, 6, 3, 2, 1, 0] rfl)
  · refine lv_iconst (v := (-1)) hz.1 hz.2.1 dX4_fewestGuards_23 (by decide) ?_
    exact wr_iret hz hr hlk dX4_fewestGuards_24 hS (()) hP (by rw [cov_no c_20]; rfl)

theorem hinX4_noticers_X0 : ∀ w ∈ wsX00, w ∈ wsX4_noticers := fun _ h => List.mem_cons_of_mem _ (List.mem_append_right _ h)
set_option maxHeartbeats 4000000 in
set_option maxRecDepth 100000 in
theorem c4_noticers (l_ : Launch) (D : va_G) (k : Nat → ClassId) (a : Nat → Nat) (tS : Nat) (sk sv : Nat → Nat) (F : Nat → Nat) (E : Nat → Nat → Nat) (M : Nat → Nat) (mn w : Nat) (hR : Rb M F E) (hf : Wf M) (hm : mn < 60) (hw : w < M 0 - 1) : Met l_ yX4_noticers wsX4_noticers ({ frames := 3, cells := 0, slots := 0, locals := 67 }) (va_Pc [.ref (a 1), .int (nI mn), .int (nI w)] (wH (Am tS sk sv) D k (bw a 1 k F E))) (QcRead (nI (sNoticed M mn w))) 0 0 (fun _ => False) := by
  refine my_entry (cc := cX4_noticers) (maxL := 4) (ret := some .int) (by decide) rfl (Nat.le_of_ble_eq_true rfl) ?_
  intro p_ e_ s_ m_ bl_ me_ c_ hz hr hlk hB ls hl
  obtain ⟨hP, hK, hD0, hy⟩ := hB
  have hD := wA.self hD0
  have hS : va_S (wA (bw a 1 k F E)) s_.heap s_.heap [] := va_S.rf
  have hl : lv_has ls 4 [(0, .ref (a 1)), (1, .int (nI mn)), (2, .int (nI w))] := hl
  have f0 := hf.n2
  have f1 := hf.n9
  have f2 := hf.fr
  have f3 := hf.gd
  have f4 := hf.pc
  have f5 := hf.wc
  have r1 := sReach_lt hf w 2
  have r2 : M 2 &&& sReach M w 2 ≤ M 2 := Nat.and_le_left
  have r3 := andnot_le (M 2 &&& sReach M w 2) (sReach M w 1)
  refine lv_aload_n hz.1 hz.2.1 dX4_noticers_0 rfl (lv_at hl 0 rfl) ?_
  refine rg (T := TX0) (N := 12) hz hinX4_noticers_X0 hK hP 0 rfl rfl 2 (by decide) (List.mem_of_getElem? (i := 1) rfl) rfl (v := .int (nI (F 2))) rfl dX4_noticers_1 ?_
  refine toe (z := nI (M 2)) (by rw [hR.1.2.2.1]) ?_
  refine lv_aload_n hz.1 hz.2.1 dX4_noticers_4 rfl (lv_at hl 0 rfl) ?_
  refine lv_iload_n hz.1 hz.2.1 dX4_noticers_5 rfl (lv_at hl 2 rfl) ?_
  refine lv_iconst (v := nI 2) hz.1 hz.2.1 dX4_noticers_6 (by decide) ?_
  refine rdV (A := wA (bw a 1 k F E)) (As := [.int (nI w), .int (nI 2)]) (rest := [.int (nI (M 2))]) hz (okAm tS sk sv) (c0_reach l_ D k a 1 tS sk sv F E M w 2 hR hf (by omega) (by omega) (by omega)) (cwV 2 hz.2.2.2.2 gX4_noticers_X0_reach rfl rfl rfl (by decide +kernel) ⟨Nat.le_of_ble_eq_true rfl, Nat.le_of_ble_eq_true rfl⟩) hK hy hP hD hS 0 0 rfl rfl rfl rfl hl.1 rfl (Nat.le_of_ble_eq_true rfl) dX4_noticers_7 ⟨Nat.zero_le _, Nat.zero_le _⟩ ?_
  refine lv_iand hz.1 hz.2.1 dX4_noticers_10 ?_
  refine toe (z := nI ((M 2) &&& (sReach M w 2))) (fa_and _ _) ?_
  refine lv_istore_n (lv' := [(3, .int (nI ((M 2) &&& (sReach M w 2)))), (0, .ref (a 1)), (1, .int (nI mn)), (2, .int (nI w))]) hz.1 hz.2.1 dX4_noticers_11 rfl hl (by decide) rfl (fun ls hl => ?_)
  refine lv_aload_n hz.1 hz.2.1 dX4_noticers_12 rfl (lv_at hl 1 rfl) ?_
  refine lv_iload_n hz.1 hz.2.1 dX4_noticers_13 rfl (lv_at hl 2 rfl) ?_
  refine lv_iload_n hz.1 hz.2.1 dX4_noticers_14 rfl (lv_at hl 3 rfl) ?_
  refine rdV (A := wA (bw a 1 k F E)) (As := [.int (nI mn), .int (nI w)]) (rest := []) hz (okAm tS sk sv) (c0_isBlown l_ D k a 1 tS sk sv F E M mn w hR hf (by omega) (by omega)) (cwV 2 hz.2.2.2.2 gX4_noticers_X0_isBlown rfl rfl rfl (by decide +kernel) ⟨Nat.le_of_ble_eq_true rfl, Nat.le_of_ble_eq_true rfl⟩) hK hy hP hD hS 0 0 rfl rfl rfl rfl hl.1 rfl (Nat.le_of_ble_eq_true rfl) dX4_noticers_15 ⟨Nat.zero_le _, Nat.zero_le _⟩ ?_
  refine zeq (tgt := 32) hz dX4_noticers_18 (by decide) (fun c_18 => ?_) (fun c_18 => ?_)
  · refine lv_iload_n hz.1 hz.2.1 dX4_noticers_32 rfl (lv_at hl 0 rfl) ?_
    refine rdS (As := [.int (nI ((M 2) &&& (sReach M w 2)))]) (rest := []) hz (cJ_bit l_ ((M 2) &&& (sReach M w 2)) (by omega)) rfl (va_cwS 1 hz.2.2.2.2 gX4_noticers_J6_bitCount_0f7a4 rfl rfl rfl (by decide +kernel) ⟨Nat.le_of_ble_eq_true rfl, Nat.le_of_ble_eq_true rfl⟩) rfl hl.1 rfl (Nat.le_of_ble_eq_true rfl) dX4_noticers_33 ⟨Nat.zero_le _, Nat.zero_le _⟩ ?_
    exact rd_iret hz hr hlk dX4_noticers_36 (by rw [noticed_n hf hw c_18])
  · refine lv_iload_n hz.1 hz.2.1 dX4_noticers_21 rfl (lv_at hl 0 rfl) ?_
    refine lv_aload_n hz.1 hz.2.1 dX4_noticers_22 rfl (lv_at hl 1 rfl) ?_
    refine lv_iload_n hz.1 hz.2.1 dX4_noticers_23 rfl (lv_at hl 3 rfl) ?_
    refine lv_iconst (v := nI 1) hz.1 hz.2.1 dX4_noticers_24 (by decide) ?_
    refine rdV (A := wA (bw a 1 k F E)) (As := [.int (nI w), .int (nI 1)]) (rest := [.int (nI ((M 2) &&& (sReach M w 2)))]) hz (okAm tS sk sv) (c0_reach l_ D k a 1 tS sk sv F E M w 1 hR hf (by omega) (by omega) (by omega)) (cwV 2 hz.2.2.2.2 gX4_noticers_X0_reach rfl rfl rfl (by decide +kernel) ⟨Nat.le_of_ble_eq_true rfl, Nat.le_of_ble_eq_true rfl⟩) hK hy hP hD hS 0 0 rfl rfl rfl rfl hl.1 rfl (Nat.le_of_ble_eq_true rfl) dX4_noticers_25 ⟨Nat.zero_le _, Nat.zero_le _⟩ ?_
    refine lv_iconst (v := (-1)) hz.1 hz.2.1 dX4_noticers_28 (by decide) ?_
    refine lv_ixor hz.1 hz.2.1 dX4_noticers_29 ?_
    refine lv_iand hz.1 hz.2.1 dX4_noticers_30 ?_
    refine toe (z := nI ((M 2 &&& sReach M w 2) ^^^ ((M 2 &&& sReach M w 2) &&& sReach M w 1))) (nI_andnot _ _) ?_
    refine lv_istore_n (lv' := [(3, .int (nI ((M 2 &&& sReach M w 2) ^^^ ((M 2 &&& sReach M w 2) &&& sReach M w 1)))), (0, .ref (a 1)), (1, .int (nI mn)), (2, .int (nI w))]) hz.1 hz.2.1 dX4_noticers_31 rfl hl (by decide) rfl (fun ls hl => ?_)
    refine lv_iload_n hz.1 hz.2.1 dX4_noticers_32 rfl (lv_at hl 0 rfl) ?_
    refine rdS (As := [.int (nI ((M 2 &&& sReach M w 2) ^^^ ((M 2 &&& sReach M w 2) &&& sReach M w 1)))]) (rest := []) hz (cJ_bit l_ ((M 2 &&& sReach M w 2) ^^^ ((M 2 &&& sReach M w 2) &&& sReach M w 1)) (by omega)) rfl (va_cwS 1 hz.2.2.2.2 gX4_noticers_J6_bitCount_0f7a4 rfl rfl rfl (by decide +kernel) ⟨Nat.le_of_ble_eq_true rfl, Nat.le_of_ble_eq_true rfl⟩) rfl hl.1 rfl (Nat.le_of_ble_eq_true rfl) dX4_noticers_33 ⟨Nat.zero_le _, Nat.zero_le _⟩ ?_
    exact rd_iret hz hr hlk dX4_noticers_36 (by rw [noticed_b hf hw c_18])

theorem hinX4_lookAtMinute_X4 : ∀ w ∈ wsX40, w ∈ wsX4_lookAtMinute := fun _ h => List.mem_cons_of_mem _ (List.mem_append_left _ (List.mem_append_right _ h))
theorem hinX4_lookAtMinute_X0 : ∀ w ∈ wsX00, w ∈ wsX4_lookAtMinute := fun _ h => List.mem_cons_of_mem _ (List.mem_append_right _ h)
set_option maxHeartbeats 4000000 in
set_option maxRecDepth 100000 in
theorem c4_lookAtMinute (l_ : Launch) (D : va_G) (k : Nat → ClassId) (a : Nat → Nat) (tS : Nat) (sk sv : Nat → Nat) (Z : Nat → Int32) (S : Nat → Nat) (Rr : Nat → Nat) (F : Nat → Nat) (E : Nat → Nat → Nat) (M : Nat → Nat) (s0 : Nat × Option Nat) (mn : Nat) (hR : Rb M F E) (hf : Wf M) (hz0 : Z 0 = gI s0) (hz1 : Z 1 = oI s0.2) (hs0 : sOK s0) (hm : mn < 60) : Met l_ yX4_lookAtMinute wsX4_lookAtMinute ({ frames := 4, cells := 0, slots := 0, locals := 90 }) (va_Pc [.ref (a 37), .ref (a 1), .int (nI mn)] (wH (Am tS sk sv) D k (ww a k Z S Rr ++ (bw a 1 k F E)))) (va_Qv (fun (u : Unit) => True) (fun (u : Unit) (t_ : State) => va_P D vwCl ((fun (_ : Unit) => ww a k (xset (xset Z 0 (gI (sSlW (sSlC M mn) mn s0 (M 0 - 1)))) 1 (oI (sSlW (sSlC M mn) mn s0 (M 0 - 1)).2)) S Rr ++ (bw a 1 k F E)) u) t_.heap) (wA (ww a k Z S Rr ++ (bw a 1 k F E)))) 0 0 (wA (ww a k Z S Rr ++ (bw a 1 k F E))) := by
  refine my_entry (cc := cX4_lookAtMinute) (maxL := 5) (ret := none) (by decide) rfl (Nat.le_of_ble_eq_true rfl) ?_
  intro p_ e_ s_ m_ bl_ me_ c_ hz hr hlk hB ls hl
  obtain ⟨hP, hK, hD0, hy⟩ := hB
  have hD := wA.self hD0
  have hS : va_S (wA (ww a k Z S Rr ++ (bw a 1 k F E))) s_.heap s_.heap [] := va_S.rf
  have hl : lv_has ls 5 [(0, .ref (a 37)), (1, .ref (a 1)), (2, .int (nI mn))] := hl
  have f0 := hf.n2
  have f1 := hf.n9
  have f2 := hf.fr
  have f3 := hf.gd
  have f4 := hf.pc
  have f5 := hf.wc
  have z0 : Z 0 = gI (sSlW (sSlC M mn) mn s0 0) := hz0
  have z1 : Z 1 = oI (sSlW (sSlC M mn) mn s0 0).2 := hz1
  refine lv_iconst (v := nI 0) hz.1 hz.2.1 dX4_lookAtMinute_0 (by decide) ?_
  refine lv_istore_n (lv' := [(3, .int (nI 0)), (0, .ref (a 37)), (1, .ref (a 1)), (2, .int (nI mn))]) hz.1 hz.2.1 dX4_lookAtMinute_1 rfl hl (by decide) rfl (fun ls hl => ?_)
  have lp_2 : ∀ (fu : Nat) (w : Nat), (w ≤ M 0 - 1) → M 0 - 1 - w < fu → ∀ ls : Array Slot, ∀ (H : Heap) (locs : List Loc), va_P D vwCl (ww a k (xset (xset Z 0 (gI (sSlW (sSlC M mn) mn s0 w))) 1 (oI (sSlW (sSlC M mn) mn s0 w).2)) S Rr ++ (bw a 1 k F E)) H → va_S (wA (ww a k Z S Rr ++ (bw a 1 k F E))) s_.heap H locs → lv_has ls 5 [(0, .ref (a 37)), (1, .ref (a 1)), (2, .int (nI mn)), (3, .int (nI w))] → W p_ l_ e_ ({ frames := 4, cells := 0, slots := 0, locals := 90 }) s_ m_ [.ref (a 37), .ref (a 1), .int (nI mn)].toArray bl_ me_ c_ H locs 0 0 (MQ bl_ (va_Qv (fun (u : Unit) => True) (fun (u : Unit) (t_ : State) => va_P D vwCl ((fun (_ : Unit) => ww a k (xset (xset Z 0 (gI (sSlW (sSlC M mn) mn s0 (M 0 - 1)))) 1 (oI (sSlW (sSlC M mn) mn s0 (M 0 - 1)).2)) S Rr ++ (bw a 1 k F E)) u) t_.heap) (wA (ww a k Z S Rr ++ (bw a 1 k F E)))) [.ref (a 37), .ref (a 1), .int (nI mn)].toArray s_ 0 0 (wA (ww a k Z S Rr ++ (bw a 1 k F E)))) (F0 m_ 2 ls []) := by
    intro fu
    induction fu with
    | zero => intro w hw hm; exact absurd hm (Nat.not_lt_zero _)
    | succ fu ih2 =>
      intro w hw hm ls H locs hP hS hl
      have hD : va_D (wA (ww a k Z S Rr ++ (bw a 1 k F E))) (ww a k (xset (xset Z 0 (gI (sSlW (sSlC M mn) mn s0 w))) 1 (oI (sSlW (sSlC M mn) mn s0 w).2)) S Rr ++ (bw a 1 k F E)) := hD.same rfl
      refine lv_iload_n hz.1 hz.2.1 dX4_lookAtMinute_2 rfl (lv_at hl 3 rfl) ?_
      refine lv_aload_n hz.1 hz.2.1 dX4_lookAtMinute_3 rfl (lv_at hl 1 rfl) ?_
      refine rdV (A := wA (ww a k Z S Rr ++ (bw a 1 k F E))) (As := []) (rest := [.int (nI w)]) hz (okAm tS sk sv) (c0_wireCount l_ D k a 1 tS sk sv F E M  hR hf) (cwV 0 hz.2.2.2.2 gX4_lookAtMinute_X0_wireCount rfl rfl rfl (by decide +kernel) ⟨Nat.le_of_ble_eq_true rfl, Nat.le_of_ble_eq_true rfl⟩) hK hy (hP.sub (ws' := bw a 1 k F E) [2, 3, 4, 5, 6, 7, 8, 9] rfl) (hD.sub (ws' := bw a 1 k F E) [2, 3, 4, 5, 6, 7, 8, 9] (by decide) rfl) hS 0 0 rfl rfl rfl rfl hl.1 rfl (Nat.le_of_ble_eq_true rfl) dX4_lookAtMinute_4 ⟨Nat.zero_le _, Nat.zero_le _⟩ ?_
      refine jge (tgt := 65) hz dX4_lookAtMinute_7 (by decide) (by omega) (by omega) (fun c_7 => ?_) (fun c_7 => ?_)
      · obtain rfl : w = M 0 - 1 := by omega
        exact wr_vret hz hr hlk dX4_lookAtMinute_65 hS (()) hP (trivial)
      · have hO := sSlW_OK hf (mn := mn) hs0 w
        have n1 := sNoticed_le hf mn w
        have hO2 : (sSlW (sSlC M mn) mn s0 w).1 ≤ 100 := by unfold sOK at hO; omega
        refine lv_aload_n hz.1 hz.2.1 dX4_lookAtMinute_10 rfl (lv_at hl 1 rfl) ?_
        refine lv_iload_n hz.1 hz.2.1 dX4_lookAtMinute_11 rfl (lv_at hl 3 rfl) ?_
        refine rdV (A := wA (ww a k Z S Rr ++ (bw a 1 k F E))) (As := [.int (nI w)]) (rest := []) hz (okAm tS sk sv) (c0_isCut l_ D k a 1 tS sk sv F E M w hR hf (by omega)) (cwV 1 hz.2.2.2.2 gX4_lookAtMinute_X0_isCut rfl rfl rfl (by decide +kernel) ⟨Nat.le_of_ble_eq_true rfl, Nat.le_of_ble_eq_true rfl⟩) hK hy (hP.sub (ws' := bw a 1 k F E) [2, 3, 4, 5, 6, 7, 8, 9] rfl) (hD.sub (ws' := bw a 1 k F E) [2, 3, 4, 5, 6, 7, 8, 9] (by decide) rfl) hS 0 0 rfl rfl rfl rfl hl.1 rfl (Nat.le_of_ble_eq_true rfl) dX4_lookAtMinute_12 ⟨Nat.zero_le _, Nat.zero_le _⟩ ?_
        refine zne (tgt := 59) hz dX4_lookAtMinute_15 (by decide) (fun c_15 => ?_) (fun c_15 => ?_)
        · refine lv_iinc (v := nI (w + 1)) (lv' := [(3, .int (nI (w + 1))), (0, .ref (a 37)), (1, .ref (a 1)), (2, .int (nI mn))]) hz.1 hz.2.1 dX4_lookAtMinute_59 hl (k := 3) rfl (nI_add _ 1) (by decide) rfl (fun ls hl => ?_)
          refine lv_goto (tgt := 2) hz.1 hz.2.1 dX4_lookAtMinute_62 (by decide) ?_
          have g1 : sSlW (sSlC M mn) mn s0 (w + 1) = sSlW (sSlC M mn) mn s0 w := sSlW_0 (by rw [sSlC, if_pos (of_decide_eq_true c_15)]; omega)
          have hP : va_P D vwCl (ww a k (xset (xset Z 0 (gI (sSlW (sSlC M mn) mn s0 (w + 1)))) 1 (oI (sSlW (sSlC M mn) mn s0 (w + 1)).2)) S Rr ++ (bw a 1 k F E)) H := by rw [g1]; exact hP
          exact ih2 (w + 1) (by omega) (by omega) ls H locs hP hS (lv_sub hl [1, 2, 3, 0] rfl)
        · refine lv_aload_n hz.1 hz.2.1 dX4_lookAtMinute_18 rfl (lv_at hl 1 rfl) ?_
          refine lv_iload_n hz.1 hz.2.1 dX4_lookAtMinute_19 rfl (lv_at hl 2 rfl) ?_
          refine lv_iload_n hz.1 hz.2.1 dX4_lookAtMinute_20 rfl (lv_at hl 3 rfl) ?_
          refine rdSW (A := wA (ww a k Z S Rr ++ (bw a 1 k F E))) (As := [.ref (a 1), .int (nI mn), .int (nI w)]) (rest := []) hz (okAm tS sk sv) (c4_noticers l_ D k a tS sk sv F E M mn w hR hf (by omega) (by omega)) (va_cwS 3 hz.2.2.2.2 gX4_lookAtMinute_X4_noticers rfl rfl rfl (by decide +kernel) ⟨Nat.le_of_ble_eq_true rfl, Nat.le_of_ble_eq_true rfl⟩) hK hy (hP.sub (ws' := bw a 1 k F E) [2, 3, 4, 5, 6, 7, 8, 9] rfl) (hD.sub (ws' := bw a 1 k F E) [2, 3, 4, 5, 6, 7, 8, 9] (by decide) rfl) hS rfl hl.1 rfl (Nat.le_of_ble_eq_true rfl) dX4_lookAtMinute_21 ⟨Nat.zero_le _, Nat.zero_le _⟩ ?_
          refine lv_istore (lv' := [(4, .int (nI (sNoticed M mn w))), (0, .ref (a 37)), (1, .ref (a 1)), (2, .int (nI mn)), (3, .int (nI w))]) hz.1 hz.2.1 dX4_lookAtMinute_24 hl (by decide) rfl (fun ls hl => ?_)
          refine lv_aload_n hz.1 hz.2.1 dX4_lookAtMinute_26 rfl (lv_at hl 1 rfl) ?_
          refine rg (T := TX4) (N := 4) hz hinX4_lookAtMinute_X4 hK hP 0 rfl rfl 0 (by decide) (List.mem_of_getElem? (i := 1) rfl) rfl (v := .int (gI (sSlW (sSlC M mn) mn s0 w))) rfl dX4_lookAtMinute_27 ?_
          refine lv_iconst (v := (-1)) hz.1 hz.2.1 dX4_lookAtMinute_30 (by decide) ?_
          refine lv_icmp_eq (tgt := 43) hz.1 hz.2.1 dX4_lookAtMinute_31 (by decide) (fun c_31 => ?_) (fun c_31 => ?_)
          · have o1 : (sSlW (sSlC M mn) mn s0 w).1 = 100 := by have q := (gI_none hO).mp c_31; unfold sOK at hO; rcases hO with h | h; exact h.2; exact absurd q h.1
            refine lv_aload_n hz.1 hz.2.1 dX4_lookAtMinute_43 rfl (lv_at hl 1 rfl) ?_
            refine lv_iload hz.1 hz.2.1 dX4_lookAtMinute_44 (lv_at hl 0 rfl) ?_
            refine rput (v := .int (nI (sNoticed M mn w))) (ty := .int) (T := TX4) (N := 4) hz hinX4_lookAtMinute_X4 tyX4 tyX4_ok nmX4 hK hP hD hS 0 rfl rfl 0 (by decide) (List.mem_of_getElem? (i := 1) rfl) rfl rfl (by decide +kernel) rfl rfl (Nat.le_of_ble_eq_true rfl) dX4_lookAtMinute_46 (fun H locs hP hS => ?_)
            have hP : va_P D vwCl (ww a k (xset (xset Z 0 (nI (sNoticed M mn w))) 1 (oI (sSlW (sSlC M mn) mn s0 w).2)) S Rr ++ (bw a 1 k F E)) H := hP
            have hD : va_D (wA (ww a k Z S Rr ++ (bw a 1 k F E))) (ww a k (xset (xset Z 0 (nI (sNoticed M mn w))) 1 (oI (sSlW (sSlC M mn) mn s0 w).2)) S Rr ++ (bw a 1 k F E)) := hD.same rfl
            refine lv_aload_n hz.1 hz.2.1 dX4_lookAtMinute_49 rfl (lv_at hl 1 rfl) ?_
            refine lv_bipush (v := nI 100) hz.1 hz.2.1 dX4_lookAtMinute_50 (by decide) ?_
            refine lv_iload_n hz.1 hz.2.1 dX4_lookAtMinute_52 rfl (lv_at hl 3 rfl) ?_
            refine lv_imul hz.1 hz.2.1 dX4_lookAtMinute_53 ?_
            refine toe (z := nI (100 * mn)) (pk_mul _ _) ?_
            refine lv_iload_n hz.1 hz.2.1 dX4_lookAtMinute_54 rfl (lv_at hl 4 rfl) ?_
            refine lv_iadd hz.1 hz.2.1 dX4_lookAtMinute_55 ?_
            refine toe (z := nI ((100 * mn) + w)) (nI_add _ _) ?_
            refine rput (v := .int (nI ((100 * mn) + w))) (ty := .int) (T := TX4) (N := 4) hz hinX4_lookAtMinute_X4 tyX4 tyX4_ok nmX4 hK hP hD hS 0 rfl rfl 1 (by decide) (List.mem_of_getElem? (i := 2) rfl) rfl rfl (by decide +kernel) rfl rfl (Nat.le_of_ble_eq_true rfl) dX4_lookAtMinute_56 (fun H locs hP hS => ?_)
            have hP : va_P D vwCl (ww a k (xset (xset Z 0 (nI (sNoticed M mn w))) 1 (nI ((100 * mn) + w))) S Rr ++ (bw a 1 k F E)) H := hP
            have hD : va_D (wA (ww a k Z S Rr ++ (bw a 1 k F E))) (ww a k (xset (xset Z 0 (nI (sNoticed M mn w))) 1 (nI ((100 * mn) + w))) S Rr ++ (bw a 1 k F E)) := hD.same rfl
            refine lv_iinc (v := nI (w + 1)) (lv' := [(3, .int (nI (w + 1))), (4, .int (nI (sNoticed M mn w))), (0, .ref (a 37)), (1, .ref (a 1)), (2, .int (nI mn))]) hz.1 hz.2.1 dX4_lookAtMinute_59 hl (k := 4) rfl (nI_add _ 1) (by decide) rfl (fun ls hl => ?_)
            refine lv_goto (tgt := 2) hz.1 hz.2.1 dX4_lookAtMinute_62 (by decide) ?_
            have g1 : sSlW (sSlC M mn) mn s0 (w + 1) = (sNoticed M mn w, some (100 * mn + w)) := by rw [sSlW_1 (by rw [sSlC, if_neg (of_decide_eq_false c_15)]; omega), sSlC, if_neg (of_decide_eq_false c_15)]
            have hP : va_P D vwCl (ww a k (xset (xset Z 0 (gI (sSlW (sSlC M mn) mn s0 (w + 1)))) 1 (oI (sSlW (sSlC M mn) mn s0 (w + 1)).2)) S Rr ++ (bw a 1 k F E)) H := by rw [g1]; exact hP
            exact ih2 (w + 1) (by omega) (by omega) ls H locs hP hS (lv_sub hl [2, 3, 4, 0] rfl)
          · have o1 : ¬ (sSlW (sSlC M mn) mn s0 w).2 = none := fun q => c_31 ((gI_none hO).mpr q)
            refine lv_iload hz.1 hz.2.1 dX4_lookAtMinute_34 (lv_at hl 0 rfl) ?_
            refine lv_aload_n hz.1 hz.2.1 dX4_lookAtMinute_36 rfl (lv_at hl 1 rfl) ?_
            refine rg (T := TX4) (N := 4) hz hinX4_lookAtMinute_X4 hK hP 0 rfl rfl 0 (by decide) (List.mem_of_getElem? (i := 1) rfl) rfl (v := .int (gI (sSlW (sSlC M mn) mn s0 w))) rfl dX4_lookAtMinute_37 ?_
            refine toe (z := nI ((sSlW (sSlC M mn) mn s0 w).1)) (gI_some o1) ?_
            refine jge (tgt := 59) hz dX4_lookAtMinute_40 (by decide) (by omega) (by omega) (fun c_40 => ?_) (fun c_40 => ?_)
            · refine lv_iinc (v := nI (w + 1)) (lv' := [(3, .int (nI (w + 1))), (4, .int (nI (sNoticed M mn w))), (0, .ref (a 37)), (1, .ref (a 1)), (2, .int (nI mn))]) hz.1 hz.2.1 dX4_lookAtMinute_59 hl (k := 4) rfl (nI_add _ 1) (by decide) rfl (fun ls hl => ?_)
              refine lv_goto (tgt := 2) hz.1 hz.2.1 dX4_lookAtMinute_62 (by decide) ?_
              have g1 : sSlW (sSlC M mn) mn s0 (w + 1) = sSlW (sSlC M mn) mn s0 w := sSlW_0 (by rw [sSlC, if_neg (of_decide_eq_false c_15)]; omega)
              have hP : va_P D vwCl (ww a k (xset (xset Z 0 (gI (sSlW (sSlC M mn) mn s0 (w + 1)))) 1 (oI (sSlW (sSlC M mn) mn s0 (w + 1)).2)) S Rr ++ (bw a 1 k F E)) H := by rw [g1]; exact hP
              exact ih2 (w + 1) (by omega) (by omega) ls H locs hP hS (lv_sub hl [2, 3, 4, 0] rfl)
            · refine lv_aload_n hz.1 hz.2.1 dX4_lookAtMinute_43 rfl (lv_at hl 1 rfl) ?_
              refine lv_iload hz.1 hz.2.1 dX4_lookAtMinute_44 (lv_at hl 0 rfl) ?_
              refine rput (v := .int (nI (sNoticed M mn w))) (ty := .int) (T := TX4) (N := 4) hz hinX4_lookAtMinute_X4 tyX4 tyX4_ok nmX4 hK hP hD hS 0 rfl rfl 0 (by decide) (List.mem_of_getElem? (i := 1) rfl) rfl rfl (by decide +kernel) rfl rfl (Nat.le_of_ble_eq_true rfl) dX4_lookAtMinute_46 (fun H locs hP hS => ?_)
              have hP : va_P D vwCl (ww a k (xset (xset Z 0 (nI (sNoticed M mn w))) 1 (oI (sSlW (sSlC M mn) mn s0 w).2)) S Rr ++ (bw a 1 k F E)) H := hP
              have hD : va_D (wA (ww a k Z S Rr ++ (bw a 1 k F E))) (ww a k (xset (xset Z 0 (nI (sNoticed M mn w))) 1 (oI (sSlW (sSlC M mn) mn s0 w).2)) S Rr ++ (bw a 1 k F E)) := hD.same rfl
              refine lv_aload_n hz.1 hz.2.1 dX4_lookAtMinute_49 rfl (lv_at hl 1 rfl) ?_
              refine lv_bipush (v := nI 100) hz.1 hz.2.1 dX4_lookAtMinute_50 (by decide) ?_
              refine lv_iload_n hz.1 hz.2.1 dX4_lookAtMinute_52 rfl (lv_at hl 3 rfl) ?_
              refine lv_imul hz.1 hz.2.1 dX4_lookAtMinute_53 ?_
              refine toe (z := nI (100 * mn)) (pk_mul _ _) ?_
              refine lv_iload_n hz.1 hz.2.1 dX4_lookAtMinute_54 rfl (lv_at hl 4 rfl) ?_
              refine lv_iadd hz.1 hz.2.1 dX4_lookAtMinute_55 ?_
              refine toe (z := nI ((100 * mn) + w)) (nI_add _ _) ?_
              refine rput (v := .int (nI ((100 * mn) + w))) (ty := .int) (T := TX4) (N := 4) hz hinX4_lookAtMinute_X4 tyX4 tyX4_ok nmX4 hK hP hD hS 0 rfl rfl 1 (by decide) (List.mem_of_getElem? (i := 2) rfl) rfl rfl (by decide +kernel) rfl rfl (Nat.le_of_ble_eq_true rfl) dX4_lookAtMinute_56 (fun H locs hP hS => ?_)
              have hP : va_P D vwCl (ww a k (xset (xset Z 0 (nI (sNoticed M mn w))) 1 (nI ((100 * mn) + w))) S Rr ++ (bw a 1 k F E)) H := hP
              have hD : va_D (wA (ww a k Z S Rr ++ (bw a 1 k F E))) (ww a k (xset (xset Z 0 (nI (sNoticed M mn w))) 1 (nI ((100 * mn) + w))) S Rr ++ (bw a 1 k F E)) := hD.same rfl
              refine lv_iinc (v := nI (w + 1)) (lv' := [(3, .int (nI (w + 1))), (4, .int (nI (sNoticed M mn w))), (0, .ref (a 37)), (1, .ref (a 1)), (2, .int (nI mn))]) hz.1 hz.2.1 dX4_lookAtMinute_59 hl (k := 4) rfl (nI_add _ 1) (by decide) rfl (fun ls hl => ?_)
              refine lv_goto (tgt := 2) hz.1 hz.2.1 dX4_lookAtMinute_62 (by decide) ?_
              have g1 : sSlW (sSlC M mn) mn s0 (w + 1) = (sNoticed M mn w, some (100 * mn + w)) := by rw [sSlW_1 (by rw [sSlC, if_neg (of_decide_eq_false c_15)]; omega), sSlC, if_neg (of_decide_eq_false c_15)]
              have hP : va_P D vwCl (ww a k (xset (xset Z 0 (gI (sSlW (sSlC M mn) mn s0 (w + 1)))) 1 (oI (sSlW (sSlC M mn) mn s0 (w + 1)).2)) S Rr ++ (bw a 1 k F E)) H := by rw [g1]; exact hP
              exact ih2 (w + 1) (by omega) (by omega) ls H locs hP hS (lv_sub hl [2, 3, 4, 0] rfl)
  have hP : va_P D vwCl (ww a k (xset (xset Z 0 (gI (sSlW (sSlC M mn) mn s0 0))) 1 (oI (sSlW (sSlC M mn) mn s0 0).2)) S Rr ++ (bw a 1 k F E)) s_.heap := by rw [← z0, ← z1]; exact hP
  exact lp_2 _ 0 (by omega) (Nat.lt_succ_self _) ls _ _ hP hS (lv_sub hl [1, 2, 3, 0] rfl)

theorem hinX4_findSlip_X4 : ∀ w ∈ wsX40, w ∈ wsX4_findSlip := fun _ h => List.mem_cons_of_mem _ (List.mem_append_left _ (List.mem_append_right _ h))
theorem hinX4_findSlip_X0 : ∀ w ∈ wsX00, w ∈ wsX4_findSlip := fun _ h => List.mem_cons_of_mem _ (List.mem_append_right _ h)
set_option maxHeartbeats 4000000 in
set_option maxRecDepth 100000 in
theorem c4_findSlip (l_ : Launch) (D : va_G) (k : Nat → ClassId) (a : Nat → Nat) (tS : Nat) (sk sv : Nat → Nat) (Z : Nat → Int32) (S : Nat → Nat) (Rr : Nat → Nat) (F : Nat → Nat) (E : Nat → Nat → Nat) (M : Nat → Nat)  (hR : Rb M F E) (hf : Wf M) : Met l_ yX4_findSlip wsX4_findSlip ({ frames := 5, cells := 0, slots := 0, locals := 114 }) (va_Pc [.ref (a 37), .ref (a 1)] (wH (Am tS sk sv) D k (ww a k Z S Rr ++ (bw a 1 k F E)))) (va_Qv (fun (u : Unit) => True) (fun (u : Unit) (t_ : State) => va_P D vwCl ((fun (_ : Unit) => ww a k (xset (xset Z 0 (gI (sSlip M))) 1 (oI (sSlip M).2)) S Rr ++ (bw a 1 k F E)) u) t_.heap) (wA (ww a k Z S Rr ++ (bw a 1 k F E)))) 0 0 (wA (ww a k Z S Rr ++ (bw a 1 k F E))) := by
  refine my_entry (cc := cX4_findSlip) (maxL := 5) (ret := none) (by decide) rfl (Nat.le_of_ble_eq_true rfl) ?_
  intro p_ e_ s_ m_ bl_ me_ c_ hz hr hlk hB ls hl
  obtain ⟨hP, hK, hD0, hy⟩ := hB
  have hD := wA.self hD0
  have hS : va_S (wA (ww a k Z S Rr ++ (bw a 1 k F E))) s_.heap s_.heap [] := va_S.rf
  have hl : lv_has ls 5 [(0, .ref (a 37)), (1, .ref (a 1))] := hl
  have f0 := hf.n2
  have f1 := hf.n9
  have f2 := hf.fr
  have f3 := hf.gd
  have f4 := hf.pc
  have f5 := hf.wc
  refine lv_aload_n hz.1 hz.2.1 dX4_findSlip_0 rfl (lv_at hl 0 rfl) ?_
  refine lv_iconst (v := (-1)) hz.1 hz.2.1 dX4_findSlip_1 (by decide) ?_
  refine rput (v := .int (-1)) (ty := .int) (T := TX4) (N := 4) hz hinX4_findSlip_X4 tyX4 tyX4_ok nmX4 hK hP hD hS 0 rfl rfl 0 (by decide) (List.mem_of_getElem? (i := 1) rfl) rfl rfl (by decide +kernel) rfl rfl (Nat.le_of_ble_eq_true rfl) dX4_findSlip_2 (fun H locs hP hS => ?_)
  have hP : va_P D vwCl (ww a k (xset Z 0 (-1)) S Rr ++ (bw a 1 k F E)) H := hP
  have hD : va_D (wA (ww a k Z S Rr ++ (bw a 1 k F E))) (ww a k (xset Z 0 (-1)) S Rr ++ (bw a 1 k F E)) := hD.same rfl
  refine lv_aload_n hz.1 hz.2.1 dX4_findSlip_5 rfl (lv_at hl 0 rfl) ?_
  refine lv_iconst (v := (-1)) hz.1 hz.2.1 dX4_findSlip_6 (by decide) ?_
  refine rput (v := .int (-1)) (ty := .int) (T := TX4) (N := 4) hz hinX4_findSlip_X4 tyX4 tyX4_ok nmX4 hK hP hD hS 0 rfl rfl 1 (by decide) (List.mem_of_getElem? (i := 2) rfl) rfl rfl (by decide +kernel) rfl rfl (Nat.le_of_ble_eq_true rfl) dX4_findSlip_7 (fun H locs hP hS => ?_)
  have hP : va_P D vwCl (ww a k (xset (xset Z 0 (-1)) 1 (-1)) S Rr ++ (bw a 1 k F E)) H := hP
  have hD : va_D (wA (ww a k Z S Rr ++ (bw a 1 k F E))) (ww a k (xset (xset Z 0 (-1)) 1 (-1)) S Rr ++ (bw a 1 k F E)) := hD.same rfl
  refine lv_iconst (v := nI 0) hz.1 hz.2.1 dX4_findSlip_10 (by decide) ?_
  refine toe (z := bI false) (rfl) ?_
  refine lv_istore_n (lv' := [(2, .int (bI false)), (0, .ref (a 37)), (1, .ref (a 1))]) hz.1 hz.2.1 dX4_findSlip_11 rfl hl (by decide) rfl (fun ls hl => ?_)
  refine lv_iconst (v := nI 0) hz.1 hz.2.1 dX4_findSlip_12 (by decide) ?_
  refine lv_istore_n (lv' := [(3, .int (nI 0)), (2, .int (bI false)), (0, .ref (a 37)), (1, .ref (a 1))]) hz.1 hz.2.1 dX4_findSlip_13 rfl hl (by decide) rfl (fun ls hl => ?_)
  have lp_14 : ∀ (fu : Nat) (m : Nat) (q : Bool), (m ≤ 60) → (q = true → ∀ mq, kQ M mq = false → ∀ v, v < M 0 - 1 → (sSlM (sSlC M) (M 0 - 1) m).1 ≤ sSlC M mq v) → 60 - m < fu → ∀ ls : Array Slot, ∀ (H : Heap) (locs : List Loc), va_P D vwCl (ww a k (xset (xset Z 0 (gI (sSlM (sSlC M) (M 0 - 1) m))) 1 (oI (sSlM (sSlC M) (M 0 - 1) m).2)) S Rr ++ (bw a 1 k F E)) H → va_S (wA (ww a k Z S Rr ++ (bw a 1 k F E))) s_.heap H locs → lv_has ls 5 [(0, .ref (a 37)), (1, .ref (a 1)), (2, .int (bI q)), (3, .int (nI m))] → W p_ l_ e_ ({ frames := 5, cells := 0, slots := 0, locals := 114 }) s_ m_ [.ref (a 37), .ref (a 1)].toArray bl_ me_ c_ H locs 0 0 (MQ bl_ (va_Qv (fun (u : Unit) => True) (fun (u : Unit) (t_ : State) => va_P D vwCl ((fun (_ : Unit) => ww a k (xset (xset Z 0 (gI (sSlip M))) 1 (oI (sSlip M).2)) S Rr ++ (bw a 1 k F E)) u) t_.heap) (wA (ww a k Z S Rr ++ (bw a 1 k F E)))) [.ref (a 37), .ref (a 1)].toArray s_ 0 0 (wA (ww a k Z S Rr ++ (bw a 1 k F E)))) (F0 m_ 14 ls []) := by
    intro fu
    induction fu with
    | zero => intro m q hm6 hq hm; exact absurd hm (Nat.not_lt_zero _)
    | succ fu ih14 =>
      intro m q hm6 hq hm ls H locs hP hS hl
      have hD : va_D (wA (ww a k Z S Rr ++ (bw a 1 k F E))) (ww a k (xset (xset Z 0 (gI (sSlM (sSlC M) (M 0 - 1) m))) 1 (oI (sSlM (sSlC M) (M 0 - 1) m).2)) S Rr ++ (bw a 1 k F E)) := hD.same rfl
      refine lv_iload_n hz.1 hz.2.1 dX4_findSlip_14 rfl (lv_at hl 3 rfl) ?_
      refine lv_bipush (v := nI 60) hz.1 hz.2.1 dX4_findSlip_15 (by decide) ?_
      refine jge (tgt := 61) hz dX4_findSlip_17 (by decide) (by omega) (by omega) (fun c_17 => ?_) (fun c_17 => ?_)
      · obtain rfl : m = 60 := by omega
        exact wr_vret hz hr hlk dX4_findSlip_61 hS (()) hP (trivial)
      · refine lv_aload_n hz.1 hz.2.1 dX4_findSlip_20 rfl (lv_at hl 1 rfl) ?_
        refine lv_iload_n hz.1 hz.2.1 dX4_findSlip_21 rfl (lv_at hl 3 rfl) ?_
        refine rdV (A := wA (ww a k Z S Rr ++ (bw a 1 k F E))) (As := [.int (nI m)]) (rest := []) hz (okAm tS sk sv) (c0_isWindy l_ D k a 1 tS sk sv F E M m hR hf (by omega)) (cwV 1 hz.2.2.2.2 gX4_findSlip_X0_isWindy rfl rfl rfl (by decide +kernel) ⟨Nat.le_of_ble_eq_true rfl, Nat.le_of_ble_eq_true rfl⟩) hK hy (hP.sub (ws' := bw a 1 k F E) [2, 3, 4, 5, 6, 7, 8, 9] rfl) (hD.sub (ws' := bw a 1 k F E) [2, 3, 4, 5, 6, 7, 8, 9] (by decide) rfl) hS 0 0 rfl rfl rfl rfl hl.1 rfl (Nat.le_of_ble_eq_true rfl) dX4_findSlip_22 ⟨Nat.zero_le _, Nat.zero_le _⟩ ?_
        refine lv_istore (lv' := [(4, .int (bI (sAny (fun z_ => decide (M (20 + 2 * z_) = m)) (M 19)))), (0, .ref (a 37)), (1, .ref (a 1)), (2, .int (bI q)), (3, .int (nI m))]) hz.1 hz.2.1 dX4_findSlip_25 hl (by decide) rfl (fun ls hl => ?_)
        refine lv_iload hz.1 hz.2.1 dX4_findSlip_27 (lv_at hl 0 rfl) ?_
        refine zne (tgt := 36) hz dX4_findSlip_29 (by decide) (fun c_29 => ?_) (fun c_29 => ?_)
        · refine lv_aload_n hz.1 hz.2.1 dX4_findSlip_36 rfl (lv_at hl 1 rfl) ?_
          refine lv_aload_n hz.1 hz.2.1 dX4_findSlip_37 rfl (lv_at hl 2 rfl) ?_
          refine lv_iload_n hz.1 hz.2.1 dX4_findSlip_38 rfl (lv_at hl 4 rfl) ?_
          refine wrVv (A := wA (ww a k Z S Rr ++ (bw a 1 k F E))) (As := [.ref (a 1), .int (nI m)]) (rest := []) hz (okAm tS sk sv) (c4_lookAtMinute l_ D k a tS sk sv (xset (xset Z 0 (gI (sSlM (sSlC M) (M 0 - 1) m))) 1 (oI (sSlM (sSlC M) (M 0 - 1) m).2)) S Rr F E M (sSlM (sSlC M) (M 0 - 1) m) m hR hf rfl rfl (sSlM_OK hf _ m) (by omega)) (cwV 2 hz.2.2.2.2 gX4_findSlip_X4_lookAtMinute rfl rfl rfl (by decide +kernel) ⟨Nat.le_of_ble_eq_true rfl, Nat.le_of_ble_eq_true rfl⟩) hK hy hP hD hS 0 4 rfl rfl rfl rfl hl.1 rfl (Nat.le_of_ble_eq_true rfl) dX4_findSlip_39 ⟨Nat.zero_le _, Nat.zero_le _⟩ (fun u H1 locs hp hP1 hS hfr => ?_)
          have hP : va_P D vwCl (ww a k (xset (xset Z 0 (gI (sSlM (sSlC M) (M 0 - 1) (m + 1)))) 1 (oI (sSlM (sSlC M) (M 0 - 1) (m + 1)).2)) S Rr ++ (bw a 1 k F E)) H1 := hP1
          generalize H1 = H at hP hS ⊢
          have hD : va_D (wA (ww a k Z S Rr ++ (bw a 1 k F E))) (ww a k (xset (xset Z 0 (gI (sSlM (sSlC M) (M 0 - 1) (m + 1)))) 1 (oI (sSlM (sSlC M) (M 0 - 1) (m + 1)).2)) S Rr ++ (bw a 1 k F E)) := hD.same rfl
          refine lv_iload_n hz.1 hz.2.1 dX4_findSlip_42 rfl (lv_at hl 3 rfl) ?_
          refine lv_iload hz.1 hz.2.1 dX4_findSlip_43 (lv_at hl 0 rfl) ?_
          refine zne (tgt := 52) hz dX4_findSlip_45 (by decide) (fun c_45 => ?_) (fun c_45 => ?_)
          · refine lv_iconst (v := nI 0) hz.1 hz.2.1 dX4_findSlip_52 (by decide) ?_
            refine lv_ior hz.1 hz.2.1 dX4_findSlip_53 ?_
            refine toe (z := bI q) (bI_or0 q) ?_
            refine lv_istore_n (lv' := [(2, .int (bI q)), (4, .int (bI (sAny (fun z_ => decide (M (20 + 2 * z_) = m)) (M 19)))), (0, .ref (a 37)), (1, .ref (a 1)), (3, .int (nI m))]) hz.1 hz.2.1 dX4_findSlip_54 rfl hl (by decide) rfl (fun ls hl => ?_)
            refine lv_iinc (v := nI (m + 1)) (lv' := [(3, .int (nI (m + 1))), (2, .int (bI q)), (4, .int (bI (sAny (fun z_ => decide (M (20 + 2 * z_) = m)) (M 19)))), (0, .ref (a 37)), (1, .ref (a 1))]) hz.1 hz.2.1 dX4_findSlip_55 hl (k := 4) rfl (nI_add _ 1) (by decide) rfl (fun ls hl => ?_)
            refine lv_goto (tgt := 14) hz.1 hz.2.1 dX4_findSlip_58 (by decide) ?_
            exact ih14 (m + 1) q (by omega) (fun q mq hmq v hv => Nat.le_trans (sSlW_le _ _ _ _) (hq q mq hmq v hv)) (by omega) ls H locs hP hS (lv_sub hl [3, 4, 1, 0] rfl)
          · exact absurd (c_29.symm.trans c_45) (by decide)
        · refine lv_iload_n hz.1 hz.2.1 dX4_findSlip_32 rfl (lv_at hl 3 rfl) ?_
          refine zne (tgt := 42) hz dX4_findSlip_33 (by decide) (fun c_33 => ?_) (fun c_33 => ?_)
          · refine lv_iload_n hz.1 hz.2.1 dX4_findSlip_42 rfl (lv_at hl 3 rfl) ?_
            refine lv_iload hz.1 hz.2.1 dX4_findSlip_43 (lv_at hl 0 rfl) ?_
            refine zne (tgt := 52) hz dX4_findSlip_45 (by decide) (fun c_45 => ?_) (fun c_45 => ?_)
            · exact absurd (c_29.symm.trans c_45) (by decide)
            · refine lv_iconst (v := nI 1) hz.1 hz.2.1 dX4_findSlip_48 (by decide) ?_
              refine lv_goto (tgt := 53) hz.1 hz.2.1 dX4_findSlip_49 (by decide) ?_
              refine lv_ior hz.1 hz.2.1 dX4_findSlip_53 ?_
              refine toe (z := bI true) (bI_or1 q) ?_
              refine lv_istore_n (lv' := [(2, .int (bI true)), (4, .int (bI (sAny (fun z_ => decide (M (20 + 2 * z_) = m)) (M 19)))), (0, .ref (a 37)), (1, .ref (a 1)), (3, .int (nI m))]) hz.1 hz.2.1 dX4_findSlip_54 rfl hl (by decide) rfl (fun ls hl => ?_)
              refine lv_iinc (v := nI (m + 1)) (lv' := [(3, .int (nI (m + 1))), (2, .int (bI true)), (4, .int (bI (sAny (fun z_ => decide (M (20 + 2 * z_) = m)) (M 19)))), (0, .ref (a 37)), (1, .ref (a 1))]) hz.1 hz.2.1 dX4_findSlip_55 hl (k := 4) rfl (nI_add _ 1) (by decide) rfl (fun ls hl => ?_)
              refine lv_goto (tgt := 14) hz.1 hz.2.1 dX4_findSlip_58 (by decide) ?_
              have g1 : sSlM (sSlC M) (M 0 - 1) (m + 1) = sSlM (sSlC M) (M 0 - 1) m := sSlW_skip _ (fun v hv => hq c_33 m c_29 v hv)
              have hP : va_P D vwCl (ww a k (xset (xset Z 0 (gI (sSlM (sSlC M) (M 0 - 1) (m + 1)))) 1 (oI (sSlM (sSlC M) (M 0 - 1) (m + 1)).2)) S Rr ++ (bw a 1 k F E)) H := by rw [g1]; exact hP
              exact ih14 (m + 1) true (by omega) (fun _ mq hmq v hv => by rw [g1]; exact hq c_33 mq hmq v hv) (by omega) ls H locs hP hS (lv_sub hl [3, 4, 1, 0] rfl)
          · refine lv_aload_n hz.1 hz.2.1 dX4_findSlip_36 rfl (lv_at hl 1 rfl) ?_
            refine lv_aload_n hz.1 hz.2.1 dX4_findSlip_37 rfl (lv_at hl 2 rfl) ?_
            refine lv_iload_n hz.1 hz.2.1 dX4_findSlip_38 rfl (lv_at hl 4 rfl) ?_
            refine wrVv (A := wA (ww a k Z S Rr ++ (bw a 1 k F E))) (As := [.ref (a 1), .int (nI m)]) (rest := []) hz (okAm tS sk sv) (c4_lookAtMinute l_ D k a tS sk sv (xset (xset Z 0 (gI (sSlM (sSlC M) (M 0 - 1) m))) 1 (oI (sSlM (sSlC M) (M 0 - 1) m).2)) S Rr F E M (sSlM (sSlC M) (M 0 - 1) m) m hR hf rfl rfl (sSlM_OK hf _ m) (by omega)) (cwV 2 hz.2.2.2.2 gX4_findSlip_X4_lookAtMinute rfl rfl rfl (by decide +kernel) ⟨Nat.le_of_ble_eq_true rfl, Nat.le_of_ble_eq_true rfl⟩) hK hy hP hD hS 0 4 rfl rfl rfl rfl hl.1 rfl (Nat.le_of_ble_eq_true rfl) dX4_findSlip_39 ⟨Nat.zero_le _, Nat.zero_le _⟩ (fun u H1 locs hp hP1 hS hfr => ?_)
            have hP : va_P D vwCl (ww a k (xset (xset Z 0 (gI (sSlM (sSlC M) (M 0 - 1) (m + 1)))) 1 (oI (sSlM (sSlC M) (M 0 - 1) (m + 1)).2)) S Rr ++ (bw a 1 k F E)) H1 := hP1
            generalize H1 = H at hP hS ⊢
            have hD : va_D (wA (ww a k Z S Rr ++ (bw a 1 k F E))) (ww a k (xset (xset Z 0 (gI (sSlM (sSlC M) (M 0 - 1) (m + 1)))) 1 (oI (sSlM (sSlC M) (M 0 - 1) (m + 1)).2)) S Rr ++ (bw a 1 k F E)) := hD.same rfl
            refine lv_iload_n hz.1 hz.2.1 dX4_findSlip_42 rfl (lv_at hl 3 rfl) ?_
            refine lv_iload hz.1 hz.2.1 dX4_findSlip_43 (lv_at hl 0 rfl) ?_
            refine zne (tgt := 52) hz dX4_findSlip_45 (by decide) (fun c_45 => ?_) (fun c_45 => ?_)
            · exact absurd (c_29.symm.trans c_45) (by decide)
            · refine lv_iconst (v := nI 1) hz.1 hz.2.1 dX4_findSlip_48 (by decide) ?_
              refine lv_goto (tgt := 53) hz.1 hz.2.1 dX4_findSlip_49 (by decide) ?_
              refine lv_ior hz.1 hz.2.1 dX4_findSlip_53 ?_
              refine toe (z := bI true) (bI_or1 q) ?_
              refine lv_istore_n (lv' := [(2, .int (bI true)), (4, .int (bI (sAny (fun z_ => decide (M (20 + 2 * z_) = m)) (M 19)))), (0, .ref (a 37)), (1, .ref (a 1)), (3, .int (nI m))]) hz.1 hz.2.1 dX4_findSlip_54 rfl hl (by decide) rfl (fun ls hl => ?_)
              refine lv_iinc (v := nI (m + 1)) (lv' := [(3, .int (nI (m + 1))), (2, .int (bI true)), (4, .int (bI (sAny (fun z_ => decide (M (20 + 2 * z_) = m)) (M 19)))), (0, .ref (a 37)), (1, .ref (a 1))]) hz.1 hz.2.1 dX4_findSlip_55 hl (k := 4) rfl (nI_add _ 1) (by decide) rfl (fun ls hl => ?_)
              refine lv_goto (tgt := 14) hz.1 hz.2.1 dX4_findSlip_58 (by decide) ?_
              exact ih14 (m + 1) true (by omega) (fun _ mq hmq v hv => by rw [quiet_cost hmq c_29]; exact sSlW_min _ v hv) (by omega) ls H locs hP hS (lv_sub hl [3, 4, 1, 0] rfl)
  have hP : va_P D vwCl (ww a k (xset (xset Z 0 (gI (sSlM (sSlC M) (M 0 - 1) 0))) 1 (oI (sSlM (sSlC M) (M 0 - 1) 0).2)) S Rr ++ (bw a 1 k F E)) H := hP
  exact lp_14 _ 0 false (by omega) (fun q => by cases q) (Nat.lt_succ_self _) ls _ _ hP hS (lv_sub hl [2, 3, 1, 0] rfl)

theorem hinX5_cover_X5 : ∀ w ∈ wsX50, w ∈ wsX5_cover := fun _ h => List.mem_cons_of_mem _ (List.mem_append_left _ (List.mem_append_left _ (List.mem_append_right _ h)))
theorem hinX5_cover_X0 : ∀ w ∈ wsX00, w ∈ wsX5_cover := fun _ h => List.mem_cons_of_mem _ (List.mem_append_left _ (List.mem_append_right _ h))
theorem hinX5_cover_X4 : ∀ w ∈ wsX40, w ∈ wsX5_cover := fun _ h => List.mem_cons_of_mem _ (List.mem_append_right _ h)
set_option maxHeartbeats 4000000 in
set_option maxRecDepth 100000 in
theorem c5_cover_bad (l_ : Launch) (D : va_G) (k : Nat → ClassId) (a : Nat → Nat) (tS : Nat) (sk sv : Nat → Nat) (C : Nat → Nat) (F : Nat → Nat) (E : Nat → Nat → Nat) (M : Nat → Nat) (x : Int32) (hR : Rb M F E) (hf : Wf M) (hb : wIn x 1 3 = false) : Met l_ yX5_cover wsX5_cover ({ frames := 1, cells := 0, slots := 0, locals := 22 }) (va_Pc [.ref (a 0), .int x] (wH (Am tS sk sv) D k (ho a C ++ (bw a 1 k F E)))) (va_Qi (fun (r : Int32) (u : Unit) => r = -2) (fun (u : Unit) (t_ : State) => va_P D vwCl ((fun (_ : Unit) => ho a (nset C 0 (C 0 + 1)) ++ (bw a 1 k F E)) u) t_.heap) (wA (ho a C ++ (bw a 1 k F E)))) 0 0 (wA (ho a C ++ (bw a 1 k F E))) := by
  refine my_entry (cc := cX5_cover) (maxL := 2) (ret := some .int) (by decide) rfl (Nat.le_of_ble_eq_true rfl) ?_
  intro p_ e_ s_ m_ bl_ me_ c_ hz hr hlk hB ls hl
  obtain ⟨hP, hK, hD0, hy⟩ := hB
  have hD := wA.self hD0
  have hS : va_S (wA (ho a C ++ (bw a 1 k F E))) s_.heap s_.heap [] := va_S.rf
  have hl : lv_has ls 2 [(0, .ref (a 0)), (1, .int x)] := hl
  have f0 := hf.n2
  have f1 := hf.n9
  have f2 := hf.fr
  have f3 := hf.gd
  have f4 := hf.pc
  have f5 := hf.wc
  have e0 : F 0 = M 0 := hR.1.1
  have e1 : F 1 = M 1 := hR.1.2.1
  have e2 : F 2 = M 2 := hR.1.2.2.1
  have e3 : F 3 = M 19 := hR.1.2.2.2.1
  have e4 : F 4 = M 32 := hR.1.2.2.2.2
  refine lv_iload_n hz.1 hz.2.1 dX5_cover_0 rfl (lv_at hl 1 rfl) ?_
  refine lv_iconst (v := nI 1) hz.1 hz.2.1 dX5_cover_1 (by decide) ?_
  refine lv_iconst (v := nI 3) hz.1 hz.2.1 dX5_cover_2 (by decide) ?_
  refine rdS (As := [.int x, .int (nI 1), .int (nI 3)]) (rest := []) hz (c5_within l_ x 1 3 ) rfl (va_cwS 3 hz.2.2.2.2 gX5_cover_X5_within rfl rfl rfl (by decide +kernel) ⟨Nat.le_of_ble_eq_true rfl, Nat.le_of_ble_eq_true rfl⟩) rfl hl.1 rfl (Nat.le_of_ble_eq_true rfl) dX5_cover_3 ⟨Nat.zero_le _, Nat.zero_le _⟩ ?_
  refine zne (tgt := 16) hz dX5_cover_6 (by decide) (fun c_6 => ?_) (fun c_6 => ?_)
  · simp [c_6] at hb
  · refine lv_aload_n hz.1 hz.2.1 dX5_cover_9 rfl (lv_at hl 0 rfl) ?_
    refine lv_bipush (v := (-2)) hz.1 hz.2.1 dX5_cover_10 (by decide) ?_
    refine wrV (A := wA (ho a C ++ (bw a 1 k F E))) (As := [.int (-2)]) (rest := []) hz (okAm tS sk sv) (c5_bad l_ D k a tS sk sv C  (-2) ) (cwV 1 hz.2.2.2.2 gX5_cover_X5_bad rfl rfl rfl (by decide +kernel) ⟨Nat.le_of_ble_eq_true rfl, Nat.le_of_ble_eq_true rfl⟩) hK hy (hP.sub (ws' := ho a C) [0] rfl) (hD.sub (ws' := ho a C) [0] (by decide) rfl) hS 0 5 rfl rfl rfl rfl hl.1 rfl (Nat.le_of_ble_eq_true rfl) dX5_cover_12 ⟨Nat.zero_le _, Nat.zero_le _⟩ (fun r u H1 locs hp hP1 hS hfr => ?_)
    obtain rfl : r = -2 := hp
    have hP1 : va_P D vwCl (ho a (nset C 0 (C 0 + 1))) H1 := hP1
    have hP : va_P D vwCl (ho a (nset C 0 (C 0 + 1)) ++ (bw a 1 k F E)) H1 := wJn (w1 := ho a (nset C 0 (C 0 + 1))) (wc := ho a C) hP hD [0] rfl rfl hP1 hfr
    generalize H1 = H at hP hS ⊢
    have hD : va_D (wA (ho a C ++ (bw a 1 k F E))) (ho a (nset C 0 (C 0 + 1)) ++ (bw a 1 k F E)) := hD.same rfl
    exact wr_iret hz hr hlk dX5_cover_15 hS (()) hP (rfl)

set_option maxHeartbeats 4000000 in
set_option maxRecDepth 100000 in
theorem c5_cover_ok (l_ : Launch) (D : va_G) (k : Nat → ClassId) (a : Nat → Nat) (tS : Nat) (sk sv : Nat → Nat) (C : Nat → Nat) (F : Nat → Nat) (E : Nat → Nat → Nat) (Z : Nat → Int32) (S : Nat → Nat) (Rr : Nat → Nat) (M : Nat → Nat) (kk : Nat) (hR : Rb M F E) (hf : Wf M) (h1 : 1 ≤ kk) (h2 : kk ≤ 3) : Met l_ yX5_cover wsX5_cover ({ frames := 5, cells := 0, slots := 0, locals := 116 }) (va_Pc [.ref (a 0), .int (nI kk)] (wH (Am tS sk sv) D k (ho a C ++ (bw a 1 k F E ++ (ww a k Z S Rr))))) (va_Qi (fun (r : Int32) (u : Unit) => r = oI (sCover M kk)) (fun (u : Unit) (t_ : State) => va_P D vwCl ((fun (_ : Unit) => ho a C ++ (bw a 1 k F E ++ (ww a k Z (nset S 0 (fb_ct (kSt M) (M 0 - 1))) (lrR M Rr (M 0 - 1))))) u) t_.heap) (wA (ho a C ++ (bw a 1 k F E ++ (ww a k Z S Rr))))) 0 0 (wA (ho a C ++ (bw a 1 k F E ++ (ww a k Z S Rr)))) := by
  refine my_entry (cc := cX5_cover) (maxL := 2) (ret := some .int) (by decide) rfl (Nat.le_of_ble_eq_true rfl) ?_
  intro p_ e_ s_ m_ bl_ me_ c_ hz hr hlk hB ls hl
  obtain ⟨hP, hK, hD0, hy⟩ := hB
  have hD := wA.self hD0
  have hS : va_S (wA (ho a C ++ (bw a 1 k F E ++ (ww a k Z S Rr)))) s_.heap s_.heap [] := va_S.rf
  have hl : lv_has ls 2 [(0, .ref (a 0)), (1, .int (nI kk))] := hl
  have f0 := hf.n2
  have f1 := hf.n9
  have f2 := hf.fr
  have f3 := hf.gd
  have f4 := hf.pc
  have f5 := hf.wc
  have e0 : F 0 = M 0 := hR.1.1
  have e1 : F 1 = M 1 := hR.1.2.1
  have e2 : F 2 = M 2 := hR.1.2.2.1
  have e3 : F 3 = M 19 := hR.1.2.2.2.1
  have e4 : F 4 = M 32 := hR.1.2.2.2.2
  refine lv_iload_n hz.1 hz.2.1 dX5_cover_0 rfl (lv_at hl 1 rfl) ?_
  refine lv_iconst (v := nI 1) hz.1 hz.2.1 dX5_cover_1 (by decide) ?_
  refine lv_iconst (v := nI 3) hz.1 hz.2.1 dX5_cover_2 (by decide) ?_
  refine rdS (As := [.int (nI kk), .int (nI 1), .int (nI 3)]) (rest := []) hz (c5_within l_ (nI kk) 1 3 ) rfl (va_cwS 3 hz.2.2.2.2 gX5_cover_X5_within rfl rfl rfl (by decide +kernel) ⟨Nat.le_of_ble_eq_true rfl, Nat.le_of_ble_eq_true rfl⟩) rfl hl.1 rfl (Nat.le_of_ble_eq_true rfl) dX5_cover_3 ⟨Nat.zero_le _, Nat.zero_le _⟩ ?_
  refine zne (tgt := 16) hz dX5_cover_6 (by decide) (fun c_6 => ?_) (fun c_6 => ?_)
  · refine lv_aload_n hz.1 hz.2.1 dX5_cover_16 rfl (lv_at hl 0 rfl) ?_
    refine rg (T := TX5) (N := 11) hz hinX5_cover_X5 hK hP 0 rfl rfl 5 (by decide) (List.mem_of_getElem? (i := 1) rfl) rfl (v := .ref (a 37)) rfl dX5_cover_17 ?_
    refine lv_aload_n hz.1 hz.2.1 dX5_cover_20 rfl (lv_at hl 0 rfl) ?_
    refine rg (T := TX5) (N := 11) hz hinX5_cover_X5 hK hP 0 rfl rfl 0 (by decide) (List.mem_of_getElem? (i := 2) rfl) rfl (v := .ref (a 1)) rfl dX5_cover_21 ?_
    refine lv_iload_n hz.1 hz.2.1 dX5_cover_24 rfl (lv_at hl 1 rfl) ?_
    refine wrV (A := wA (ho a C ++ (bw a 1 k F E ++ (ww a k Z S Rr)))) (As := [.ref (a 1), .int (nI kk)]) (rest := []) hz (okAm tS sk sv) (c4_fewestGuards l_ D k a tS sk sv Z S Rr F E M kk hR hf (by omega) (by omega)) (cwV 2 hz.2.2.2.2 gX5_cover_X4_fewestGuards rfl rfl rfl (by decide +kernel) ⟨Nat.le_of_ble_eq_true rfl, Nat.le_of_ble_eq_true rfl⟩) hK hy (hP.sub (ws' := ww a k Z S Rr ++ (bw a 1 k F E)) [9, 10, 1, 2, 3, 4, 5, 6, 7, 8] rfl) (hD.sub (ws' := ww a k Z S Rr ++ (bw a 1 k F E)) [9, 10, 1, 2, 3, 4, 5, 6, 7, 8] (by decide) rfl) hS 0 4 rfl rfl rfl rfl hl.1 rfl (Nat.le_of_ble_eq_true rfl) dX5_cover_25 ⟨Nat.zero_le _, Nat.zero_le _⟩ (fun r u H1 locs hp hP1 hS hfr => ?_)
    obtain rfl : r = oI (sCover M kk) := hp
    have hP1 : va_P D vwCl (ww a k Z (nset S 0 (fb_ct (kSt M) (M 0 - 1))) (lrR M Rr (M 0 - 1)) ++ (bw a 1 k F E)) H1 := hP1
    have hP : va_P D vwCl (ho a C ++ (bw a 1 k F E ++ (ww a k Z (nset S 0 (fb_ct (kSt M) (M 0 - 1))) (lrR M Rr (M 0 - 1))))) H1 := wJn (w1 := ww a k Z (nset S 0 (fb_ct (kSt M) (M 0 - 1))) (lrR M Rr (M 0 - 1)) ++ (bw a 1 k F E)) (wc := ww a k Z S Rr ++ (bw a 1 k F E)) hP hD [9, 10, 1, 2, 3, 4, 5, 6, 7, 8] rfl rfl hP1 hfr
    generalize H1 = H at hP hS ⊢
    have hD : va_D (wA (ho a C ++ (bw a 1 k F E ++ (ww a k Z S Rr)))) (ho a C ++ (bw a 1 k F E ++ (ww a k Z (nset S 0 (fb_ct (kSt M) (M 0 - 1))) (lrR M Rr (M 0 - 1))))) := hD.same rfl
    exact wr_iret hz hr hlk dX5_cover_28 hS (()) hP (rfl)
  · exact absurd ((wIn_ok (by omega) (by omega) (by omega)).symm.trans c_6) (by decide)

theorem hinX5_slip_X5 : ∀ w ∈ wsX50, w ∈ wsX5_slip := fun _ h => List.mem_cons_of_mem _ (List.mem_append_left _ (List.mem_append_left _ (List.mem_append_right _ h)))
theorem hinX5_slip_X4 : ∀ w ∈ wsX40, w ∈ wsX5_slip := fun _ h => List.mem_cons_of_mem _ (List.mem_append_left _ (List.mem_append_right _ h))
theorem hinX5_slip_X0 : ∀ w ∈ wsX00, w ∈ wsX5_slip := fun _ h => List.mem_cons_of_mem _ (List.mem_append_right _ h)
set_option maxHeartbeats 4000000 in
set_option maxRecDepth 100000 in
theorem c5_slip_bad (l_ : Launch) (D : va_G) (k : Nat → ClassId) (a : Nat → Nat) (tS : Nat) (sk sv : Nat → Nat) (C : Nat → Nat) (F : Nat → Nat) (E : Nat → Nat → Nat) (M : Nat → Nat) (x : Int32) (hR : Rb M F E) (hf : Wf M) (hb : wIn x 0 1 = false) : Met l_ yX5_slip wsX5_slip ({ frames := 1, cells := 0, slots := 0, locals := 21 }) (va_Pc [.ref (a 0), .int x] (wH (Am tS sk sv) D k (ho a C ++ (bw a 1 k F E)))) (va_Qi (fun (r : Int32) (u : Unit) => r = -10) (fun (u : Unit) (t_ : State) => va_P D vwCl ((fun (_ : Unit) => ho a (nset C 0 (C 0 + 1)) ++ (bw a 1 k F E)) u) t_.heap) (wA (ho a C ++ (bw a 1 k F E)))) 0 0 (wA (ho a C ++ (bw a 1 k F E))) := by
  refine my_entry (cc := cX5_slip) (maxL := 2) (ret := some .int) (by decide) rfl (Nat.le_of_ble_eq_true rfl) ?_
  intro p_ e_ s_ m_ bl_ me_ c_ hz hr hlk hB ls hl
  obtain ⟨hP, hK, hD0, hy⟩ := hB
  have hD := wA.self hD0
  have hS : va_S (wA (ho a C ++ (bw a 1 k F E))) s_.heap s_.heap [] := va_S.rf
  have hl : lv_has ls 2 [(0, .ref (a 0)), (1, .int x)] := hl
  have f0 := hf.n2
  have f1 := hf.n9
  have f2 := hf.fr
  have f3 := hf.gd
  have f4 := hf.pc
  have f5 := hf.wc
  have e0 : F 0 = M 0 := hR.1.1
  have e1 : F 1 = M 1 := hR.1.2.1
  have e2 : F 2 = M 2 := hR.1.2.2.1
  have e3 : F 3 = M 19 := hR.1.2.2.2.1
  have e4 : F 4 = M 32 := hR.1.2.2.2.2
  refine lv_iload_n hz.1 hz.2.1 dX5_slip_0 rfl (lv_at hl 1 rfl) ?_
  refine lv_iconst (v := nI 2) hz.1 hz.2.1 dX5_slip_1 (by decide) ?_
  refine rdS (As := [.int x, .int (nI 2)]) (rest := []) hz (c5_inRow l_ x 2 1 (by omega) (by omega)) rfl (va_cwS 2 hz.2.2.2.2 gX5_slip_X5_inRow rfl rfl rfl (by decide +kernel) ⟨Nat.le_of_ble_eq_true rfl, Nat.le_of_ble_eq_true rfl⟩) rfl hl.1 rfl (Nat.le_of_ble_eq_true rfl) dX5_slip_2 ⟨Nat.zero_le _, Nat.zero_le _⟩ ?_
  refine zne (tgt := 15) hz dX5_slip_5 (by decide) (fun c_5 => ?_) (fun c_5 => ?_)
  · simp [c_5] at hb
  · refine lv_aload_n hz.1 hz.2.1 dX5_slip_8 rfl (lv_at hl 0 rfl) ?_
    refine lv_bipush (v := (-10)) hz.1 hz.2.1 dX5_slip_9 (by decide) ?_
    refine wrV (A := wA (ho a C ++ (bw a 1 k F E))) (As := [.int (-10)]) (rest := []) hz (okAm tS sk sv) (c5_bad l_ D k a tS sk sv C  (-10) ) (cwV 1 hz.2.2.2.2 gX5_slip_X5_bad rfl rfl rfl (by decide +kernel) ⟨Nat.le_of_ble_eq_true rfl, Nat.le_of_ble_eq_true rfl⟩) hK hy (hP.sub (ws' := ho a C) [0] rfl) (hD.sub (ws' := ho a C) [0] (by decide) rfl) hS 0 5 rfl rfl rfl rfl hl.1 rfl (Nat.le_of_ble_eq_true rfl) dX5_slip_11 ⟨Nat.zero_le _, Nat.zero_le _⟩ (fun r u H1 locs hp hP1 hS hfr => ?_)
    obtain rfl : r = -10 := hp
    have hP1 : va_P D vwCl (ho a (nset C 0 (C 0 + 1))) H1 := hP1
    have hP : va_P D vwCl (ho a (nset C 0 (C 0 + 1)) ++ (bw a 1 k F E)) H1 := wJn (w1 := ho a (nset C 0 (C 0 + 1))) (wc := ho a C) hP hD [0] rfl rfl hP1 hfr
    generalize H1 = H at hP hS ⊢
    have hD : va_D (wA (ho a C ++ (bw a 1 k F E))) (ho a (nset C 0 (C 0 + 1)) ++ (bw a 1 k F E)) := hD.same rfl
    exact wr_iret hz hr hlk dX5_slip_14 hS (()) hP (rfl)

set_option maxHeartbeats 4000000 in
set_option maxRecDepth 100000 in
theorem c5_slip_ok (l_ : Launch) (D : va_G) (k : Nat → ClassId) (a : Nat → Nat) (tS : Nat) (sk sv : Nat → Nat) (C : Nat → Nat) (F : Nat → Nat) (E : Nat → Nat → Nat) (Z : Nat → Int32) (S : Nat → Nat) (Rr : Nat → Nat) (M : Nat → Nat) (wh : Nat) (hR : Rb M F E) (hf : Wf M) (h1 : wh ≤ 1) : Met l_ yX5_slip wsX5_slip ({ frames := 6, cells := 0, slots := 0, locals := 138 }) (va_Pc [.ref (a 0), .int (nI wh)] (wH (Am tS sk sv) D k (ho a C ++ (bw a 1 k F E ++ (ww a k Z S Rr))))) (va_Qi (fun (r : Int32) (u : Unit) => r = sSlipA M wh) (fun (u : Unit) (t_ : State) => va_P D vwCl ((fun (_ : Unit) => ho a C ++ (bw a 1 k F E ++ (ww a k (xset (xset Z 0 (gI (sSlip M))) 1 (oI (sSlip M).2)) S Rr))) u) t_.heap) (wA (ho a C ++ (bw a 1 k F E ++ (ww a k Z S Rr))))) 0 0 (wA (ho a C ++ (bw a 1 k F E ++ (ww a k Z S Rr)))) := by
  refine my_entry (cc := cX5_slip) (maxL := 2) (ret := some .int) (by decide) rfl (Nat.le_of_ble_eq_true rfl) ?_
  intro p_ e_ s_ m_ bl_ me_ c_ hz hr hlk hB ls hl
  obtain ⟨hP, hK, hD0, hy⟩ := hB
  have hD := wA.self hD0
  have hS : va_S (wA (ho a C ++ (bw a 1 k F E ++ (ww a k Z S Rr)))) s_.heap s_.heap [] := va_S.rf
  have hl : lv_has ls 2 [(0, .ref (a 0)), (1, .int (nI wh))] := hl
  have f0 := hf.n2
  have f1 := hf.n9
  have f2 := hf.fr
  have f3 := hf.gd
  have f4 := hf.pc
  have f5 := hf.wc
  have e0 : F 0 = M 0 := hR.1.1
  have e1 : F 1 = M 1 := hR.1.2.1
  have e2 : F 2 = M 2 := hR.1.2.2.1
  have e3 : F 3 = M 19 := hR.1.2.2.2.1
  have e4 : F 4 = M 32 := hR.1.2.2.2.2
  refine lv_iload_n hz.1 hz.2.1 dX5_slip_0 rfl (lv_at hl 1 rfl) ?_
  refine lv_iconst (v := nI 2) hz.1 hz.2.1 dX5_slip_1 (by decide) ?_
  refine rdS (As := [.int (nI wh), .int (nI 2)]) (rest := []) hz (c5_inRow l_ (nI wh) 2 1 (by omega) (by omega)) rfl (va_cwS 2 hz.2.2.2.2 gX5_slip_X5_inRow rfl rfl rfl (by decide +kernel) ⟨Nat.le_of_ble_eq_true rfl, Nat.le_of_ble_eq_true rfl⟩) rfl hl.1 rfl (Nat.le_of_ble_eq_true rfl) dX5_slip_2 ⟨Nat.zero_le _, Nat.zero_le _⟩ ?_
  refine zne (tgt := 15) hz dX5_slip_5 (by decide) (fun c_5 => ?_) (fun c_5 => ?_)
  · refine lv_aload_n hz.1 hz.2.1 dX5_slip_15 rfl (lv_at hl 0 rfl) ?_
    refine rg (T := TX5) (N := 11) hz hinX5_slip_X5 hK hP 0 rfl rfl 5 (by decide) (List.mem_of_getElem? (i := 1) rfl) rfl (v := .ref (a 37)) rfl dX5_slip_16 ?_
    refine lv_aload_n hz.1 hz.2.1 dX5_slip_19 rfl (lv_at hl 0 rfl) ?_
    refine rg (T := TX5) (N := 11) hz hinX5_slip_X5 hK hP 0 rfl rfl 0 (by decide) (List.mem_of_getElem? (i := 2) rfl) rfl (v := .ref (a 1)) rfl dX5_slip_20 ?_
    refine wrVv (A := wA (ho a C ++ (bw a 1 k F E ++ (ww a k Z S Rr)))) (As := [.ref (a 1)]) (rest := []) hz (okAm tS sk sv) (c4_findSlip l_ D k a tS sk sv Z S Rr F E M  hR hf) (cwV 1 hz.2.2.2.2 gX5_slip_X4_findSlip rfl rfl rfl (by decide +kernel) ⟨Nat.le_of_ble_eq_true rfl, Nat.le_of_ble_eq_true rfl⟩) hK hy (hP.sub (ws' := ww a k Z S Rr ++ (bw a 1 k F E)) [9, 10, 1, 2, 3, 4, 5, 6, 7, 8] rfl) (hD.sub (ws' := ww a k Z S Rr ++ (bw a 1 k F E)) [9, 10, 1, 2, 3, 4, 5, 6, 7, 8] (by decide) rfl) hS 0 4 rfl rfl rfl rfl hl.1 rfl (Nat.le_of_ble_eq_true rfl) dX5_slip_23 ⟨Nat.zero_le _, Nat.zero_le _⟩ (fun u H1 locs hp hP1 hS hfr => ?_)
    have hP1 : va_P D vwCl (ww a k (xset (xset Z 0 (gI (sSlip M))) 1 (oI (sSlip M).2)) S Rr ++ (bw a 1 k F E)) H1 := hP1
    have hP : va_P D vwCl (ho a C ++ (bw a 1 k F E ++ (ww a k (xset (xset Z 0 (gI (sSlip M))) 1 (oI (sSlip M).2)) S Rr))) H1 := wJn (w1 := ww a k (xset (xset Z 0 (gI (sSlip M))) 1 (oI (sSlip M).2)) S Rr ++ (bw a 1 k F E)) (wc := ww a k Z S Rr ++ (bw a 1 k F E)) hP hD [9, 10, 1, 2, 3, 4, 5, 6, 7, 8] rfl rfl hP1 hfr
    generalize H1 = H at hP hS ⊢
    have hD : va_D (wA (ho a C ++ (bw a 1 k F E ++ (ww a k Z S Rr)))) (ho a C ++ (bw a 1 k F E ++ (ww a k (xset (xset Z 0 (gI (sSlip M))) 1 (oI (sSlip M).2)) S Rr))) := hD.same rfl
    refine lv_iload_n hz.1 hz.2.1 dX5_slip_26 rfl (lv_at hl 1 rfl) ?_
    refine jne0 (tgt := 40) hz dX5_slip_27 (by decide) (by omega) (fun c_27 => ?_) (fun c_27 => ?_)
    · refine lv_aload_n hz.1 hz.2.1 dX5_slip_40 rfl (lv_at hl 0 rfl) ?_
      refine rg (T := TX5) (N := 11) hz hinX5_slip_X5 hK hP 0 rfl rfl 5 (by decide) (List.mem_of_getElem? (i := 1) rfl) rfl (v := .ref (a 37)) rfl dX5_slip_41 ?_
      refine rg (T := TX4) (N := 4) hz hinX5_slip_X4 hK hP 9 rfl rfl 1 (by decide) (List.mem_of_getElem? (i := 4) rfl) rfl (v := .int (oI (sSlip M).2)) rfl dX5_slip_44 ?_
      exact wr_iret hz hr hlk dX5_slip_47 hS (()) hP (by rw [sSlipA, if_pos (Or.inl (show wh = 1 by omega))])
    · refine lv_aload_n hz.1 hz.2.1 dX5_slip_30 rfl (lv_at hl 0 rfl) ?_
      refine rg (T := TX5) (N := 11) hz hinX5_slip_X5 hK hP 0 rfl rfl 5 (by decide) (List.mem_of_getElem? (i := 1) rfl) rfl (v := .ref (a 37)) rfl dX5_slip_31 ?_
      refine rg (T := TX4) (N := 4) hz hinX5_slip_X4 hK hP 9 rfl rfl 0 (by decide) (List.mem_of_getElem? (i := 3) rfl) rfl (v := .int (gI (sSlip M))) rfl dX5_slip_34 ?_
      refine lv_goto (tgt := 47) hz.1 hz.2.1 dX5_slip_37 (by decide) ?_
      exact wr_iret hz hr hlk dX5_slip_47 hS (()) hP (slipA0 c_27)
  · exact absurd ((wIn_ok (by omega) (by omega) (by omega)).symm.trans c_5) (by decide)
