theorem hinX6_isWord : ∀ w ∈ wsX60, w ∈ wsX6_isWord := fun _ h => List.mem_cons_of_mem _ (List.mem_append_right _ h)
set_option maxHeartbeats 4000000 in
set_option maxRecDepth 100000 in
theorem c6_isWord4 (l_ : Launch) (D : va_G) (k : Nat → ClassId) (b I J : Nat → Nat) (G : Nat → Nat → Nat) (p x0 x1 x2 x3 : Nat) (hL : I 0 ≤ 200) (hp : p ≤ I 0) (hT : ∀ j, G 9 j < 256) (hx0 : x0 < 1000) (hx1 : x1 < 1000) (hx2 : x2 < 1000) (hx3 : x3 < 1000) : Met l_ yX6_isWord wsX6_isWord ({ frames := 0, cells := 0, slots := 0, locals := 0 }) (va_Pc [.ref (b 0), .int (nI x0), .int (nI x1), .int (nI x2), .int (nI x3), .int (nI 0)] (wH YT D k (mw b k (nset (nset (nset (nset I 1 p) 2 (sEd (G 9) (I 0) p - p)) 3 (sKd (G 9) (I 0) p)) 4 (sVl (G 9) (I 0) p)) J G))) (QcRead (bI (sW4 (G 9) (I 0) p x0 x1 x2 x3))) 0 0 (fun _ => False) := by
  refine my_entry (cc := cX6_isWord) (maxL := 9) (ret := some .boolean) (by decide) rfl (Nat.le_of_ble_eq_true rfl) ?_
  intro p_ e_ s_ m_ bl_ me_ c_ hz hr hlk hB ls hl
  obtain ⟨hP, hK, hD0, -⟩ := hB
  have hD := wA.self hD0
  have hS : va_S (wA (mw b k (nset (nset (nset (nset I 1 p) 2 (sEd (G 9) (I 0) p - p)) 3 (sKd (G 9) (I 0) p)) 4 (sVl (G 9) (I 0) p)) J G)) s_.heap s_.heap [] := va_S.rf
  have hl : lv_has ls 9 [(0, .ref (b 0)), (1, .int (nI x0)), (2, .int (nI x1)), (3, .int (nI x2)), (4, .int (nI x3)), (5, .int (nI 0))] := hl
  have hE := sEd_le (T := G 9) hp
  have hk4 := sKd_le (G 9) (I 0) p
  refine lv_iload hz.1 hz.2.1 dX6_isWord_0 (lv_at hl 5 rfl) ?_
  refine jne0 (tgt := 9) hz dX6_isWord_2 (by decide) (by omega) (fun c_2 => ?_) (fun c_2 => ?_)
  · exact absurd c_2 (by decide)
  · refine lv_iconst (v := nI 4) hz.1 hz.2.1 dX6_isWord_5 (by decide) ?_
    refine lv_goto (tgt := 10) hz.1 hz.2.1 dX6_isWord_6 (by decide) ?_
    refine lv_istore (lv' := [(6, .int (nI 4)), (0, .ref (b 0)), (1, .int (nI x0)), (2, .int (nI x1)), (3, .int (nI x2)), (4, .int (nI x3)), (5, .int (nI 0))]) hz.1 hz.2.1 dX6_isWord_10 hl (by decide) rfl (fun ls hl => ?_)
    have jn_34 : ∀ (_ : Unit), ∀ ls : Array Slot, lv_has ls 9 [(0, .ref (b 0)), (1, .int (nI x0)), (2, .int (nI x1)), (3, .int (nI x2)), (4, .int (nI x3)), (5, .int (nI 0)), (6, .int (nI 4))] → W p_ l_ e_ ({ frames := 0, cells := 0, slots := 0, locals := 0 }) s_ m_ [.ref (b 0), .int (nI x0), .int (nI x1), .int (nI x2), .int (nI x3), .int (nI 0)].toArray bl_ me_ c_ s_.heap [] 0 0 (MQ bl_ (QcRead (bI (sW4 (G 9) (I 0) p x0 x1 x2 x3))) [.ref (b 0), .int (nI x0), .int (nI x1), .int (nI x2), .int (nI x3), .int (nI 0)].toArray s_ 0 0 (fun _ => False)) (F0 m_ 34 ls [.int (bI ((decide (sKd (G 9) (I 0) p = 1) && decide (sEd (G 9) (I 0) p - p = 4))))]) := by
      intro _  ls hl
      refine lv_istore (lv' := [(7, .int (bI ((decide (sKd (G 9) (I 0) p = 1) && decide (sEd (G 9) (I 0) p - p = 4))))), (0, .ref (b 0)), (1, .int (nI x0)), (2, .int (nI x1)), (3, .int (nI x2)), (4, .int (nI x3)), (5, .int (nI 0)), (6, .int (nI 4))]) hz.1 hz.2.1 dX6_isWord_34 hl (by decide) rfl (fun ls hl => ?_)
      refine lv_iconst (v := nI 0) hz.1 hz.2.1 dX6_isWord_36 (by decide) ?_
      refine lv_istore (lv' := [(8, .int (nI 0)), (7, .int (bI ((decide (sKd (G 9) (I 0) p = 1) && decide (sEd (G 9) (I 0) p - p = 4))))), (0, .ref (b 0)), (1, .int (nI x0)), (2, .int (nI x1)), (3, .int (nI x2)), (4, .int (nI x3)), (5, .int (nI 0)), (6, .int (nI 4))]) hz.1 hz.2.1 dX6_isWord_37 hl (by decide) rfl (fun ls hl => ?_)
      have lp_39 : ∀ (fu : Nat) (j : Nat), (j ≤ 4) → 4 - j < fu → ∀ ls : Array Slot, lv_has ls 9 [(0, .ref (b 0)), (1, .int (nI x0)), (2, .int (nI x1)), (3, .int (nI x2)), (4, .int (nI x3)), (5, .int (nI 0)), (6, .int (nI 4)), (7, .int (bI (sAll (fun z_ => decide (G 9 (p + z_) = (c5 x0 x1 x2 x3 0) z_)) j && (decide (sKd (G 9) (I 0) p = 1) && decide (sEd (G 9) (I 0) p - p = 4))))), (8, .int (nI j))] → W p_ l_ e_ ({ frames := 0, cells := 0, slots := 0, locals := 0 }) s_ m_ [.ref (b 0), .int (nI x0), .int (nI x1), .int (nI x2), .int (nI x3), .int (nI 0)].toArray bl_ me_ c_ s_.heap [] 0 0 (MQ bl_ (QcRead (bI (sW4 (G 9) (I 0) p x0 x1 x2 x3))) [.ref (b 0), .int (nI x0), .int (nI x1), .int (nI x2), .int (nI x3), .int (nI 0)].toArray s_ 0 0 (fun _ => False)) (F0 m_ 39 ls []) := by
        intro fu
        induction fu with
        | zero => intro j hj hm; exact absurd hm (Nat.not_lt_zero _)
        | succ fu ih39 =>
          intro j hj hm ls hl
          refine lv_iload hz.1 hz.2.1 dX6_isWord_39 (lv_at hl 8 rfl) ?_
          refine lv_iload hz.1 hz.2.1 dX6_isWord_41 (lv_at hl 6 rfl) ?_
          refine jge (tgt := 121) hz dX6_isWord_43 (by decide) (by omega) (by omega) (fun c_43 => ?_) (fun c_43 => ?_)
          · refine lv_iload hz.1 hz.2.1 dX6_isWord_121 (lv_at hl 7 rfl) ?_
            exact rd_zret hz hr hlk dX6_isWord_123 (by rw [show j = 4 by omega, Bool.and_comm]; rfl)
          · refine lv_iload hz.1 hz.2.1 dX6_isWord_46 (lv_at hl 7 rfl) ?_
            refine zeq (tgt := 121) hz dX6_isWord_48 (by decide) (fun c_48 => ?_) (fun c_48 => ?_)
            · refine lv_iload hz.1 hz.2.1 dX6_isWord_121 (lv_at hl 7 rfl) ?_
              exact rd_zret hz hr hlk dX6_isWord_123 (by rw [c_48]; exact congrArg bI (show false = ((decide (sKd (G 9) (I 0) p = 1) && decide (sEd (G 9) (I 0) p - p = 4)) && sAll (fun z_ => decide (G 9 (p + z_) = (c5 x0 x1 x2 x3 0) z_)) 4) by cases hq : (decide (sKd (G 9) (I 0) p = 1) && decide (sEd (G 9) (I 0) p - p = 4)) with | false => rfl | true => rw [hq, Bool.and_true] at c_48; rw [Bool.true_and, sAll_no c_48 4 hj]))
            · have hA := (Bool.and_eq_true_iff.mp c_48).1
              have hB : (decide (sKd (G 9) (I 0) p = 1) && decide (sEd (G 9) (I 0) p - p = 4)) = true := (Bool.and_eq_true_iff.mp c_48).2
              have hlg : sEd (G 9) (I 0) p - p = 4 := of_decide_eq_true (Bool.and_eq_true_iff.mp hB).2
              have hTb := hT (p + j)
              refine lv_aload_n hz.1 hz.2.1 dX6_isWord_51 rfl (lv_at hl 0 rfl) ?_
              refine rg hz hinX6_isWord hK hP 0 rfl rfl 11 (by decide) (List.mem_of_getElem? (i := 3) rfl) rfl (v := .ref (b 10)) rfl dX6_isWord_52 ?_
              refine lv_aload_n hz.1 hz.2.1 dX6_isWord_55 rfl (lv_at hl 0 rfl) ?_
              refine rg hz hinX6_isWord hK hP 0 rfl rfl 13 (by decide) (List.mem_of_getElem? (i := 4) rfl) rfl (v := .int (nI p)) rfl dX6_isWord_56 ?_
              refine lv_iload hz.1 hz.2.1 dX6_isWord_59 (lv_at hl 8 rfl) ?_
              refine lv_iadd hz.1 hz.2.1 dX6_isWord_61 ?_
              refine toe (z := nI (p + j)) (nI_add _ _) ?_
              refine rald hz hK hP 10 0 rfl rfl (i := (p + j)) (by omega) (by decide) (v := nI (G 9 (p + j))) rfl dX6_isWord_62 ?_
              refine lv_iload hz.1 hz.2.1 dX6_isWord_63 (lv_at hl 8 rfl) ?_
              refine jne0 (tgt := 72) hz dX6_isWord_65 (by decide) (by omega) (fun c_65 => ?_) (fun c_65 => ?_)
              · refine lv_iload hz.1 hz.2.1 dX6_isWord_72 (lv_at hl 8 rfl) ?_
                refine lv_iconst (v := nI 1) hz.1 hz.2.1 dX6_isWord_74 (by decide) ?_
                refine jne (tgt := 82) hz dX6_isWord_75 (by decide) (by omega) (by omega) (fun c_75 => ?_) (fun c_75 => ?_)
                · refine lv_iload hz.1 hz.2.1 dX6_isWord_82 (lv_at hl 8 rfl) ?_
                  refine lv_iconst (v := nI 2) hz.1 hz.2.1 dX6_isWord_84 (by decide) ?_
                  refine jne (tgt := 92) hz dX6_isWord_85 (by decide) (by omega) (by omega) (fun c_85 => ?_) (fun c_85 => ?_)
                  · refine lv_iload hz.1 hz.2.1 dX6_isWord_92 (lv_at hl 8 rfl) ?_
                    refine lv_iconst (v := nI 3) hz.1 hz.2.1 dX6_isWord_94 (by decide) ?_
                    refine jne (tgt := 103) hz dX6_isWord_95 (by decide) (by omega) (by omega) (fun c_95 => ?_) (fun c_95 => ?_)
                    · refine lv_iload hz.1 hz.2.1 dX6_isWord_103 (lv_at hl 5 rfl) ?_
                      refine jne (tgt := 112) hz dX6_isWord_105 (by decide) (by omega) (by omega) (fun c_105 => ?_) (fun c_105 => ?_)
                      · refine lv_iconst (v := nI 0) hz.1 hz.2.1 dX6_isWord_112 (by decide) ?_
                        refine toe (z := bI (sAll (fun z_ => decide (G 9 (p + z_) = (c5 x0 x1 x2 x3 0) z_)) (j + 1) && (decide (sKd (G 9) (I 0) p = 1) && decide (sEd (G 9) (I 0) p - p = 4)))) (bI_0 (by show ((sAll (fun z_ => decide (G 9 (p + z_) = (c5 x0 x1 x2 x3 0) z_)) j && decide (G 9 (p + j) = (c5 x0 x1 x2 x3 0) j)) && (decide (sKd (G 9) (I 0) p = 1) && decide (sEd (G 9) (I 0) p - p = 4))) = false; rw [hA, hB, (show (c5 x0 x1 x2 x3 0) j = 0 by simp [c5, c_65, c_75, c_85, c_95])]; simp [c_105])) ?_
                        refine lv_istore (lv' := [(7, .int (bI (sAll (fun z_ => decide (G 9 (p + z_) = (c5 x0 x1 x2 x3 0) z_)) (j + 1) && (decide (sKd (G 9) (I 0) p = 1) && decide (sEd (G 9) (I 0) p - p = 4))))), (0, .ref (b 0)), (1, .int (nI x0)), (2, .int (nI x1)), (3, .int (nI x2)), (4, .int (nI x3)), (5, .int (nI 0)), (6, .int (nI 4)), (8, .int (nI j))]) hz.1 hz.2.1 dX6_isWord_113 hl (by decide) rfl (fun ls hl => ?_)
                        refine lv_iinc (v := nI (j + 1)) (lv' := [(8, .int (nI (j + 1))), (7, .int (bI (sAll (fun z_ => decide (G 9 (p + z_) = (c5 x0 x1 x2 x3 0) z_)) (j + 1) && (decide (sKd (G 9) (I 0) p = 1) && decide (sEd (G 9) (I 0) p - p = 4))))), (0, .ref (b 0)), (1, .int (nI x0)), (2, .int (nI x1)), (3, .int (nI x2)), (4, .int (nI x3)), (5, .int (nI 0)), (6, .int (nI 4))]) hz.1 hz.2.1 dX6_isWord_115 hl (k := 8) rfl (nI_add _ 1) (by decide) rfl (fun ls hl => ?_)
                        refine lv_goto (tgt := 39) hz.1 hz.2.1 dX6_isWord_118 (by decide) ?_
                        exact ih39 (j + 1) (by omega) (by omega) ls (lv_sub hl [2, 3, 4, 5, 6, 7, 8, 1, 0] rfl)
                      · refine lv_iconst (v := nI 1) hz.1 hz.2.1 dX6_isWord_108 (by decide) ?_
                        refine lv_goto (tgt := 113) hz.1 hz.2.1 dX6_isWord_109 (by decide) ?_
                        refine toe (z := bI (sAll (fun z_ => decide (G 9 (p + z_) = (c5 x0 x1 x2 x3 0) z_)) (j + 1) && (decide (sKd (G 9) (I 0) p = 1) && decide (sEd (G 9) (I 0) p - p = 4)))) (bI_1 (by show ((sAll (fun z_ => decide (G 9 (p + z_) = (c5 x0 x1 x2 x3 0) z_)) j && decide (G 9 (p + j) = (c5 x0 x1 x2 x3 0) j)) && (decide (sKd (G 9) (I 0) p = 1) && decide (sEd (G 9) (I 0) p - p = 4))) = true; rw [hA, hB, (show (c5 x0 x1 x2 x3 0) j = 0 by simp [c5, c_65, c_75, c_85, c_95])]; simp [c_105])) ?_
                        refine lv_istore (lv' := [(7, .int (bI (sAll (fun z_ => decide (G 9 (p + z_) = (c5 x0 x1 x2 x3 0) z_)) (j + 1) && (decide (sKd (G 9) (I 0) p = 1) && decide (sEd (G 9) (I 0) p - p = 4))))), (0, .ref (b 0)), (1, .int (nI x0)), (2, .int (nI x1)), (3, .int (nI x2)), (4, .int (nI x3)), (5, .int (nI 0)), (6, .int (nI 4)), (8, .int (nI j))]) hz.1 hz.2.1 dX6_isWord_113 hl (by decide) rfl (fun ls hl => ?_)
                        refine lv_iinc (v := nI (j + 1)) (lv' := [(8, .int (nI (j + 1))), (7, .int (bI (sAll (fun z_ => decide (G 9 (p + z_) = (c5 x0 x1 x2 x3 0) z_)) (j + 1) && (decide (sKd (G 9) (I 0) p = 1) && decide (sEd (G 9) (I 0) p - p = 4))))), (0, .ref (b 0)), (1, .int (nI x0)), (2, .int (nI x1)), (3, .int (nI x2)), (4, .int (nI x3)), (5, .int (nI 0)), (6, .int (nI 4))]) hz.1 hz.2.1 dX6_isWord_115 hl (k := 8) rfl (nI_add _ 1) (by decide) rfl (fun ls hl => ?_)
                        refine lv_goto (tgt := 39) hz.1 hz.2.1 dX6_isWord_118 (by decide) ?_
                        exact ih39 (j + 1) (by omega) (by omega) ls (lv_sub hl [2, 3, 4, 5, 6, 7, 8, 1, 0] rfl)
                    · refine lv_iload hz.1 hz.2.1 dX6_isWord_98 (lv_at hl 4 rfl) ?_
                      refine lv_goto (tgt := 105) hz.1 hz.2.1 dX6_isWord_100 (by decide) ?_
                      refine jne (tgt := 112) hz dX6_isWord_105 (by decide) (by omega) (by omega) (fun c_105 => ?_) (fun c_105 => ?_)
                      · refine lv_iconst (v := nI 0) hz.1 hz.2.1 dX6_isWord_112 (by decide) ?_
                        refine toe (z := bI (sAll (fun z_ => decide (G 9 (p + z_) = (c5 x0 x1 x2 x3 0) z_)) (j + 1) && (decide (sKd (G 9) (I 0) p = 1) && decide (sEd (G 9) (I 0) p - p = 4)))) (bI_0 (by show ((sAll (fun z_ => decide (G 9 (p + z_) = (c5 x0 x1 x2 x3 0) z_)) j && decide (G 9 (p + j) = (c5 x0 x1 x2 x3 0) j)) && (decide (sKd (G 9) (I 0) p = 1) && decide (sEd (G 9) (I 0) p - p = 4))) = false; rw [hA, hB, (show (c5 x0 x1 x2 x3 0) j = x3 by simp [c5, c_65, c_75, c_85, c_95])]; simp [c_105])) ?_
                        refine lv_istore (lv' := [(7, .int (bI (sAll (fun z_ => decide (G 9 (p + z_) = (c5 x0 x1 x2 x3 0) z_)) (j + 1) && (decide (sKd (G 9) (I 0) p = 1) && decide (sEd (G 9) (I 0) p - p = 4))))), (0, .ref (b 0)), (1, .int (nI x0)), (2, .int (nI x1)), (3, .int (nI x2)), (4, .int (nI x3)), (5, .int (nI 0)), (6, .int (nI 4)), (8, .int (nI j))]) hz.1 hz.2.1 dX6_isWord_113 hl (by decide) rfl (fun ls hl => ?_)
                        refine lv_iinc (v := nI (j + 1)) (lv' := [(8, .int (nI (j + 1))), (7, .int (bI (sAll (fun z_ => decide (G 9 (p + z_) = (c5 x0 x1 x2 x3 0) z_)) (j + 1) && (decide (sKd (G 9) (I 0) p = 1) && decide (sEd (G 9) (I 0) p - p = 4))))), (0, .ref (b 0)), (1, .int (nI x0)), (2, .int (nI x1)), (3, .int (nI x2)), (4, .int (nI x3)), (5, .int (nI 0)), (6, .int (nI 4))]) hz.1 hz.2.1 dX6_isWord_115 hl (k := 8) rfl (nI_add _ 1) (by decide) rfl (fun ls hl => ?_)
                        refine lv_goto (tgt := 39) hz.1 hz.2.1 dX6_isWord_118 (by decide) ?_
                        exact ih39 (j + 1) (by omega) (by omega) ls (lv_sub hl [2, 3, 4, 5, 6, 7, 8, 1, 0] rfl)
                      · refine lv_iconst (v := nI 1) hz.1 hz.2.1 dX6_isWord_108 (by decide) ?_
                        refine lv_goto (tgt := 113) hz.1 hz.2.1 dX6_isWord_109 (by decide) ?_
                        refine toe (z := bI (sAll (fun z_ => decide (G 9 (p + z_) = (c5 x0 x1 x2 x3 0) z_)) (j + 1) && (decide (sKd (G 9) (I 0) p = 1) && decide (sEd (G 9) (I 0) p - p = 4)))) (bI_1 (by show ((sAll (fun z_ => decide (G 9 (p + z_) = (c5 x0 x1 x2 x3 0) z_)) j && decide (G 9 (p + j) = (c5 x0 x1 x2 x3 0) j)) && (decide (sKd (G 9) (I 0) p = 1) && decide (sEd (G 9) (I 0) p - p = 4))) = true; rw [hA, hB, (show (c5 x0 x1 x2 x3 0) j = x3 by simp [c5, c_65, c_75, c_85, c_95])]; simp [c_105])) ?_
                        refine lv_istore (lv' := [(7, .int (bI (sAll (fun z_ => decide (G 9 (p + z_) = (c5 x0 x1 x2 x3 0) z_)) (j + 1) && (decide (sKd (G 9) (I 0) p = 1) && decide (sEd (G 9) (I 0) p - p = 4))))), (0, .ref (b 0)), (1, .int (nI x0)), (2, .int (nI x1)), (3, .int (nI x2)), (4, .int (nI x3)), (5, .int (nI 0)), (6, .int (nI 4)), (8, .int (nI j))]) hz.1 hz.2.1 dX6_isWord_113 hl (by decide) rfl (fun ls hl => ?_)
                        refine lv_iinc (v := nI (j + 1)) (lv' := [(8, .int (nI (j + 1))), (7, .int (bI (sAll (fun z_ => decide (G 9 (p + z_) = (c5 x0 x1 x2 x3 0) z_)) (j + 1) && (decide (sKd (G 9) (I 0) p = 1) && decide (sEd (G 9) (I 0) p - p = 4))))), (0, .ref (b 0)), (1, .int (nI x0)), (2, .int (nI x1)), (3, .int (nI x2)), (4, .int (nI x3)), (5, .int (nI 0)), (6, .int (nI 4))]) hz.1 hz.2.1 dX6_isWord_115 hl (k := 8) rfl (nI_add _ 1) (by decide) rfl (fun ls hl => ?_)
                        refine lv_goto (tgt := 39) hz.1 hz.2.1 dX6_isWord_118 (by decide) ?_
                        exact ih39 (j + 1) (by omega) (by omega) ls (lv_sub hl [2, 3, 4, 5, 6, 7, 8, 1, 0] rfl)
                  · refine lv_iload_n hz.1 hz.2.1 dX6_isWord_88 rfl (lv_at hl 3 rfl) ?_
                    refine lv_goto (tgt := 105) hz.1 hz.2.1 dX6_isWord_89 (by decide) ?_
                    refine jne (tgt := 112) hz dX6_isWord_105 (by decide) (by omega) (by omega) (fun c_105 => ?_) (fun c_105 => ?_)
                    · refine lv_iconst (v := nI 0) hz.1 hz.2.1 dX6_isWord_112 (by decide) ?_
                      refine toe (z := bI (sAll (fun z_ => decide (G 9 (p + z_) = (c5 x0 x1 x2 x3 0) z_)) (j + 1) && (decide (sKd (G 9) (I 0) p = 1) && decide (sEd (G 9) (I 0) p - p = 4)))) (bI_0 (by show ((sAll (fun z_ => decide (G 9 (p + z_) = (c5 x0 x1 x2 x3 0) z_)) j && decide (G 9 (p + j) = (c5 x0 x1 x2 x3 0) j)) && (decide (sKd (G 9) (I 0) p = 1) && decide (sEd (G 9) (I 0) p - p = 4))) = false; rw [hA, hB, (show (c5 x0 x1 x2 x3 0) j = x2 by simp [c5, c_65, c_75, c_85])]; simp [c_105])) ?_
                      refine lv_istore (lv' := [(7, .int (bI (sAll (fun z_ => decide (G 9 (p + z_) = (c5 x0 x1 x2 x3 0) z_)) (j + 1) && (decide (sKd (G 9) (I 0) p = 1) && decide (sEd (G 9) (I 0) p - p = 4))))), (0, .ref (b 0)), (1, .int (nI x0)), (2, .int (nI x1)), (3, .int (nI x2)), (4, .int (nI x3)), (5, .int (nI 0)), (6, .int (nI 4)), (8, .int (nI j))]) hz.1 hz.2.1 dX6_isWord_113 hl (by decide) rfl (fun ls hl => ?_)
                      refine lv_iinc (v := nI (j + 1)) (lv' := [(8, .int (nI (j + 1))), (7, .int (bI (sAll (fun z_ => decide (G 9 (p + z_) = (c5 x0 x1 x2 x3 0) z_)) (j + 1) && (decide (sKd (G 9) (I 0) p = 1) && decide (sEd (G 9) (I 0) p - p = 4))))), (0, .ref (b 0)), (1, .int (nI x0)), (2, .int (nI x1)), (3, .int (nI x2)), (4, .int (nI x3)), (5, .int (nI 0)), (6, .int (nI 4))]) hz.1 hz.2.1 dX6_isWord_115 hl (k := 8) rfl (nI_add _ 1) (by decide) rfl (fun ls hl => ?_)
                      refine lv_goto (tgt := 39) hz.1 hz.2.1 dX6_isWord_118 (by decide) ?_
                      exact ih39 (j + 1) (by omega) (by omega) ls (lv_sub hl [2, 3, 4, 5, 6, 7, 8, 1, 0] rfl)
                    · refine lv_iconst (v := nI 1) hz.1 hz.2.1 dX6_isWord_108 (by decide) ?_
                      refine lv_goto (tgt := 113) hz.1 hz.2.1 dX6_isWord_109 (by decide) ?_
                      refine toe (z := bI (sAll (fun z_ => decide (G 9 (p + z_) = (c5 x0 x1 x2 x3 0) z_)) (j + 1) && (decide (sKd (G 9) (I 0) p = 1) && decide (sEd (G 9) (I 0) p - p = 4)))) (bI_1 (by show ((sAll (fun z_ => decide (G 9 (p + z_) = (c5 x0 x1 x2 x3 0) z_)) j && decide (G 9 (p + j) = (c5 x0 x1 x2 x3 0) j)) && (decide (sKd (G 9) (I 0) p = 1) && decide (sEd (G 9) (I 0) p - p = 4))) = true; rw [hA, hB, (show (c5 x0 x1 x2 x3 0) j = x2 by simp [c5, c_65, c_75, c_85])]; simp [c_105])) ?_
                      refine lv_istore (lv' := [(7, .int (bI (sAll (fun z_ => decide (G 9 (p + z_) = (c5 x0 x1 x2 x3 0) z_)) (j + 1) && (decide (sKd (G 9) (I 0) p = 1) && decide (sEd (G 9) (I 0) p - p = 4))))), (0, .ref (b 0)), (1, .int (nI x0)), (2, .int (nI x1)), (3, .int (nI x2)), (4, .int (nI x3)), (5, .int (nI 0)), (6, .int (nI 4)), (8, .int (nI j))]) hz.1 hz.2.1 dX6_isWord_113 hl (by decide) rfl (fun ls hl => ?_)
                      refine lv_iinc (v := nI (j + 1)) (lv' := [(8, .int (nI (j + 1))), (7, .int (bI (sAll (fun z_ => decide (G 9 (p + z_) = (c5 x0 x1 x2 x3 0) z_)) (j + 1) && (decide (sKd (G 9) (I 0) p = 1) && decide (sEd (G 9) (I 0) p - p = 4))))), (0, .ref (b 0)), (1, .int (nI x0)), (2, .int (nI x1)), (3, .int (nI x2)), (4, .int (nI x3)), (5, .int (nI 0)), (6, .int (nI 4))]) hz.1 hz.2.1 dX6_isWord_115 hl (k := 8) rfl (nI_add _ 1) (by decide) rfl (fun ls hl => ?_)
                      refine lv_goto (tgt := 39) hz.1 hz.2.1 dX6_isWord_118 (by decide) ?_
                      exact ih39 (j + 1) (by omega) (by omega) ls (lv_sub hl [2, 3, 4, 5, 6, 7, 8, 1, 0] rfl)
                · refine lv_iload_n hz.1 hz.2.1 dX6_isWord_78 rfl (lv_at hl 2 rfl) ?_
                  refine lv_goto (tgt := 105) hz.1 hz.2.1 dX6_isWord_79 (by decide) ?_
                  refine jne (tgt := 112) hz dX6_isWord_105 (by decide) (by omega) (by omega) (fun c_105 => ?_) (fun c_105 => ?_)
                  · refine lv_iconst (v := nI 0) hz.1 hz.2.1 dX6_isWord_112 (by decide) ?_
                    refine toe (z := bI (sAll (fun z_ => decide (G 9 (p + z_) = (c5 x0 x1 x2 x3 0) z_)) (j + 1) && (decide (sKd (G 9) (I 0) p = 1) && decide (sEd (G 9) (I 0) p - p = 4)))) (bI_0 (by show ((sAll (fun z_ => decide (G 9 (p + z_) = (c5 x0 x1 x2 x3 0) z_)) j && decide (G 9 (p + j) = (c5 x0 x1 x2 x3 0) j)) && (decide (sKd (G 9) (I 0) p = 1) && decide (sEd (G 9) (I 0) p - p = 4))) = false; rw [hA, hB, (show (c5 x0 x1 x2 x3 0) j = x1 by simp [c5, c_65, c_75])]; simp [c_105])) ?_
                    refine lv_istore (lv' := [(7, .int (bI (sAll (fun z_ => decide (G 9 (p + z_) = (c5 x0 x1 x2 x3 0) z_)) (j + 1) && (decide (sKd (G 9) (I 0) p = 1) && decide (sEd (G 9) (I 0) p - p = 4))))), (0, .ref (b 0)), (1, .int (nI x0)), (2, .int (nI x1)), (3, .int (nI x2)), (4, .int (nI x3)), (5, .int (nI 0)), (6, .int (nI 4)), (8, .int (nI j))]) hz.1 hz.2.1 dX6_isWord_113 hl (by decide) rfl (fun ls hl => ?_)
                    refine lv_iinc (v := nI (j + 1)) (lv' := [(8, .int (nI (j + 1))), (7, .int (bI (sAll (fun z_ => decide (G 9 (p + z_) = (c5 x0 x1 x2 x3 0) z_)) (j + 1) && (decide (sKd (G 9) (I 0) p = 1) && decide (sEd (G 9) (I 0) p - p = 4))))), (0, .ref (b 0)), (1, .int (nI x0)), (2, .int (nI x1)), (3, .int (nI x2)), (4, .int (nI x3)), (5, .int (nI 0)), (6, .int (nI 4))]) hz.1 hz.2.1 dX6_isWord_115 hl (k := 8) rfl (nI_add _ 1) (by decide) rfl (fun ls hl => ?_)
                    refine lv_goto (tgt := 39) hz.1 hz.2.1 dX6_isWord_118 (by decide) ?_
                    exact ih39 (j + 1) (by omega) (by omega) ls (lv_sub hl [2, 3, 4, 5, 6, 7, 8, 1, 0] rfl)
                  · refine lv_iconst (v := nI 1) hz.1 hz.2.1 dX6_isWord_108 (by decide) ?_
                    refine lv_goto (tgt := 113) hz.1 hz.2.1 dX6_isWord_109 (by decide) ?_
                    refine toe (z := bI (sAll (fun z_ => decide (G 9 (p + z_) = (c5 x0 x1 x2 x3 0) z_)) (j + 1) && (decide (sKd (G 9) (I 0) p = 1) && decide (sEd (G 9) (I 0) p - p = 4)))) (bI_1 (by show ((sAll (fun z_ => decide (G 9 (p + z_) = (c5 x0 x1 x2 x3 0) z_)) j && decide (G 9 (p + j) = (c5 x0 x1 x2 x3 0) j)) && (decide (sKd (G 9) (I 0) p = 1) && decide (sEd (G 9) (I 0) p - p = 4))) = true; rw [hA, hB, (show (c5 x0 x1 x2 x3 0) j = x1 by simp [c5, c_65, c_75])]; simp [c_105])) ?_
                    refine lv_istore (lv' := [(7, .int (bI (sAll (fun z_ => decide (G 9 (p + z_) = (c5 x0 x1 x2 x3 0) z_)) (j + 1) && (decide (sKd (G 9) (I 0) p = 1) && decide (sEd (G 9) (I 0) p - p = 4))))), (0, .ref (b 0)), (1, .int (nI x0)), (2, .int (nI x1)), (3, .int (nI x2)), (4, .int (nI x3)), (5, .int (nI 0)), (6, .int (nI 4)), (8, .int (nI j))]) hz.1 hz.2.1 dX6_isWord_113 hl (by decide) rfl (fun ls hl => ?_)
                    refine lv_iinc (v := nI (j + 1)) (lv' := [(8, .int (nI (j + 1))), (7, .int (bI (sAll (fun z_ => decide (G 9 (p + z_) = (c5 x0 x1 x2 x3 0) z_)) (j + 1) && (decide (sKd (G 9) (I 0) p = 1) && decide (sEd (G 9) (I 0) p - p = 4))))), (0, .ref (b 0)), (1, .int (nI x0)), (2, .int (nI x1)), (3, .int (nI x2)), (4, .int (nI x3)), (5, .int (nI 0)), (6, .int (nI 4))]) hz.1 hz.2.1 dX6_isWord_115 hl (k := 8) rfl (nI_add _ 1) (by decide) rfl (fun ls hl => ?_)
                    refine lv_goto (tgt := 39) hz.1 hz.2.1 dX6_isWord_118 (by decide) ?_
                    exact ih39 (j + 1) (by omega) (by omega) ls (lv_sub hl [2, 3, 4, 5, 6, 7, 8, 1, 0] rfl)
              · refine lv_iload_n hz.1 hz.2.1 dX6_isWord_68 rfl (lv_at hl 1 rfl) ?_
                refine lv_goto (tgt := 105) hz.1 hz.2.1 dX6_isWord_69 (by decide) ?_
                refine jne (tgt := 112) hz dX6_isWord_105 (by decide) (by omega) (by omega) (fun c_105 => ?_) (fun c_105 => ?_)
                · refine lv_iconst (v := nI 0) hz.1 hz.2.1 dX6_isWord_112 (by decide) ?_
                  refine toe (z := bI (sAll (fun z_ => decide (G 9 (p + z_) = (c5 x0 x1 x2 x3 0) z_)) (j + 1) && (decide (sKd (G 9) (I 0) p = 1) && decide (sEd (G 9) (I 0) p - p = 4)))) (bI_0 (by show ((sAll (fun z_ => decide (G 9 (p + z_) = (c5 x0 x1 x2 x3 0) z_)) j && decide (G 9 (p + j) = (c5 x0 x1 x2 x3 0) j)) && (decide (sKd (G 9) (I 0) p = 1) && decide (sEd (G 9) (I 0) p - p = 4))) = false; rw [hA, hB, (show (c5 x0 x1 x2 x3 0) j = x0 by simp [c5, c_65])]; simp [c_105])) ?_
                  refine lv_istore (lv' := [(7, .int (bI (sAll (fun z_ => decide (G 9 (p + z_) = (c5 x0 x1 x2 x3 0) z_)) (j + 1) && (decide (sKd (G 9) (I 0) p = 1) && decide (sEd (G 9) (I 0) p - p = 4))))), (0, .ref (b 0)), (1, .int (nI x0)), (2, .int (nI x1)), (3, .int (nI x2)), (4, .int (nI x3)), (5, .int (nI 0)), (6, .int (nI 4)), (8, .int (nI j))]) hz.1 hz.2.1 dX6_isWord_113 hl (by decide) rfl (fun ls hl => ?_)
                  refine lv_iinc (v := nI (j + 1)) (lv' := [(8, .int (nI (j + 1))), (7, .int (bI (sAll (fun z_ => decide (G 9 (p + z_) = (c5 x0 x1 x2 x3 0) z_)) (j + 1) && (decide (sKd (G 9) (I 0) p = 1) && decide (sEd (G 9) (I 0) p - p = 4))))), (0, .ref (b 0)), (1, .int (nI x0)), (2, .int (nI x1)), (3, .int (nI x2)), (4, .int (nI x3)), (5, .int (nI 0)), (6, .int (nI 4))]) hz.1 hz.2.1 dX6_isWord_115 hl (k := 8) rfl (nI_add _ 1) (by decide) rfl (fun ls hl => ?_)
                  refine lv_goto (tgt := 39) hz.1 hz.2.1 dX6_isWord_118 (by decide) ?_
                  exact ih39 (j + 1) (by omega) (by omega) ls (lv_sub hl [2, 3, 4, 5, 6, 7, 8, 1, 0] rfl)
                · refine lv_iconst (v := nI 1) hz.1 hz.2.1 dX6_isWord_108 (by decide) ?_
                  refine lv_goto (tgt := 113) hz.1 hz.2.1 dX6_isWord_109 (by decide) ?_
                  refine toe (z := bI (sAll (fun z_ => decide (G 9 (p + z_) = (c5 x0 x1 x2 x3 0) z_)) (j + 1) && (decide (sKd (G 9) (I 0) p = 1) && decide (sEd (G 9) (I 0) p - p = 4)))) (bI_1 (by show ((sAll (fun z_ => decide (G 9 (p + z_) = (c5 x0 x1 x2 x3 0) z_)) j && decide (G 9 (p + j) = (c5 x0 x1 x2 x3 0) j)) && (decide (sKd (G 9) (I 0) p = 1) && decide (sEd (G 9) (I 0) p - p = 4))) = true; rw [hA, hB, (show (c5 x0 x1 x2 x3 0) j = x0 by simp [c5, c_65])]; simp [c_105])) ?_
                  refine lv_istore (lv' := [(7, .int (bI (sAll (fun z_ => decide (G 9 (p + z_) = (c5 x0 x1 x2 x3 0) z_)) (j + 1) && (decide (sKd (G 9) (I 0) p = 1) && decide (sEd (G 9) (I 0) p - p = 4))))), (0, .ref (b 0)), (1, .int (nI x0)), (2, .int (nI x1)), (3, .int (nI x2)), (4, .int (nI x3)), (5, .int (nI 0)), (6, .int (nI 4)), (8, .int (nI j))]) hz.1 hz.2.1 dX6_isWord_113 hl (by decide) rfl (fun ls hl => ?_)
                  refine lv_iinc (v := nI (j + 1)) (lv' := [(8, .int (nI (j + 1))), (7, .int (bI (sAll (fun z_ => decide (G 9 (p + z_) = (c5 x0 x1 x2 x3 0) z_)) (j + 1) && (decide (sKd (G 9) (I 0) p = 1) && decide (sEd (G 9) (I 0) p - p = 4))))), (0, .ref (b 0)), (1, .int (nI x0)), (2, .int (nI x1)), (3, .int (nI x2)), (4, .int (nI x3)), (5, .int (nI 0)), (6, .int (nI 4))]) hz.1 hz.2.1 dX6_isWord_115 hl (k := 8) rfl (nI_add _ 1) (by decide) rfl (fun ls hl => ?_)
                  refine lv_goto (tgt := 39) hz.1 hz.2.1 dX6_isWord_118 (by decide) ?_
                  exact ih39 (j + 1) (by omega) (by omega) ls (lv_sub hl [2, 3, 4, 5, 6, 7, 8, 1, 0] rfl)
      exact lp_39 _ 0 (by omega) (Nat.lt_succ_self _) ls (lv_sub hl [2, 3, 4, 5, 6, 7, 8, 1, 0] rfl)
    refine lv_aload_n hz.1 hz.2.1 dX6_isWord_12 rfl (lv_at hl 1 rfl) ?_
    refine rg hz hinX6_isWord hK hP 0 rfl rfl 15 (by decide) (List.mem_of_getElem? (i := 1) rfl) rfl (v := .int (nI (sKd (G 9) (I 0) p))) rfl dX6_isWord_13 ?_
    refine lv_iconst (v := nI 1) hz.1 hz.2.1 dX6_isWord_16 (by decide) ?_
    refine jne (tgt := 33) hz dX6_isWord_17 (by decide) (by omega) (by omega) (fun c_17 => ?_) (fun c_17 => ?_)
    · refine lv_iconst (v := nI 0) hz.1 hz.2.1 dX6_isWord_33 (by decide) ?_
      refine toe (z := bI (decide (sKd (G 9) (I 0) p = 1) && decide (sEd (G 9) (I 0) p - p = 4))) (bI_0 (by simp [c_17])) ?_
      exact jn_34 (())  ls (lv_sub hl [1, 2, 3, 4, 5, 6, 0] rfl)
    · refine lv_aload_n hz.1 hz.2.1 dX6_isWord_20 rfl (lv_at hl 1 rfl) ?_
      refine rg hz hinX6_isWord hK hP 0 rfl rfl 14 (by decide) (List.mem_of_getElem? (i := 2) rfl) rfl (v := .int (nI (sEd (G 9) (I 0) p - p))) rfl dX6_isWord_21 ?_
      refine lv_iload hz.1 hz.2.1 dX6_isWord_24 (lv_at hl 0 rfl) ?_
      refine jne (tgt := 33) hz dX6_isWord_26 (by decide) (by omega) (by omega) (fun c_26 => ?_) (fun c_26 => ?_)
      · refine lv_iconst (v := nI 0) hz.1 hz.2.1 dX6_isWord_33 (by decide) ?_
        refine toe (z := bI (decide (sKd (G 9) (I 0) p = 1) && decide (sEd (G 9) (I 0) p - p = 4))) (bI_0 (by simp [c_26])) ?_
        exact jn_34 (())  ls (lv_sub hl [1, 2, 3, 4, 5, 6, 0] rfl)
      · refine lv_iconst (v := nI 1) hz.1 hz.2.1 dX6_isWord_29 (by decide) ?_
        refine lv_goto (tgt := 34) hz.1 hz.2.1 dX6_isWord_30 (by decide) ?_
        refine toe (z := bI (decide (sKd (G 9) (I 0) p = 1) && decide (sEd (G 9) (I 0) p - p = 4))) (bI_1 (by simp [c_17, c_26])) ?_
        exact jn_34 (())  ls (lv_sub hl [1, 2, 3, 4, 5, 6, 0] rfl)

set_option maxHeartbeats 4000000 in
set_option maxRecDepth 100000 in
theorem c6_isWord5 (l_ : Launch) (D : va_G) (k : Nat → ClassId) (b I J : Nat → Nat) (G : Nat → Nat → Nat) (p x0 x1 x2 x3 x4 : Nat) (hL : I 0 ≤ 200) (hp : p ≤ I 0) (hT : ∀ j, G 9 j < 256) (hx0 : x0 < 1000) (hx1 : x1 < 1000) (hx2 : x2 < 1000) (hx3 : x3 < 1000) (hx4 : x4 < 1000) (hz4 : ¬ x4 = 0) : Met l_ yX6_isWord wsX6_isWord ({ frames := 0, cells := 0, slots := 0, locals := 0 }) (va_Pc [.ref (b 0), .int (nI x0), .int (nI x1), .int (nI x2), .int (nI x3), .int (nI x4)] (wH YT D k (mw b k (nset (nset (nset (nset I 1 p) 2 (sEd (G 9) (I 0) p - p)) 3 (sKd (G 9) (I 0) p)) 4 (sVl (G 9) (I 0) p)) J G))) (QcRead (bI (sW5 (G 9) (I 0) p x0 x1 x2 x3 x4))) 0 0 (fun _ => False) := by
  refine my_entry (cc := cX6_isWord) (maxL := 9) (ret := some .boolean) (by decide) rfl (Nat.le_of_ble_eq_true rfl) ?_
  intro p_ e_ s_ m_ bl_ me_ c_ hz hr hlk hB ls hl
  obtain ⟨hP, hK, hD0, -⟩ := hB
  have hD := wA.self hD0
  have hS : va_S (wA (mw b k (nset (nset (nset (nset I 1 p) 2 (sEd (G 9) (I 0) p - p)) 3 (sKd (G 9) (I 0) p)) 4 (sVl (G 9) (I 0) p)) J G)) s_.heap s_.heap [] := va_S.rf
  have hl : lv_has ls 9 [(0, .ref (b 0)), (1, .int (nI x0)), (2, .int (nI x1)), (3, .int (nI x2)), (4, .int (nI x3)), (5, .int (nI x4))] := hl
  have hE := sEd_le (T := G 9) hp
  have hk4 := sKd_le (G 9) (I 0) p
  refine lv_iload hz.1 hz.2.1 dX6_isWord_0 (lv_at hl 5 rfl) ?_
  refine jne0 (tgt := 9) hz dX6_isWord_2 (by decide) (by omega) (fun c_2 => ?_) (fun c_2 => ?_)
  · refine lv_iconst (v := nI 5) hz.1 hz.2.1 dX6_isWord_9 (by decide) ?_
    refine lv_istore (lv' := [(6, .int (nI 5)), (0, .ref (b 0)), (1, .int (nI x0)), (2, .int (nI x1)), (3, .int (nI x2)), (4, .int (nI x3)), (5, .int (nI x4))]) hz.1 hz.2.1 dX6_isWord_10 hl (by decide) rfl (fun ls hl => ?_)
    have jn_34 : ∀ (_ : Unit), ∀ ls : Array Slot, lv_has ls 9 [(0, .ref (b 0)), (1, .int (nI x0)), (2, .int (nI x1)), (3, .int (nI x2)), (4, .int (nI x3)), (5, .int (nI x4)), (6, .int (nI 5))] → W p_ l_ e_ ({ frames := 0, cells := 0, slots := 0, locals := 0 }) s_ m_ [.ref (b 0), .int (nI x0), .int (nI x1), .int (nI x2), .int (nI x3), .int (nI x4)].toArray bl_ me_ c_ s_.heap [] 0 0 (MQ bl_ (QcRead (bI (sW5 (G 9) (I 0) p x0 x1 x2 x3 x4))) [.ref (b 0), .int (nI x0), .int (nI x1), .int (nI x2), .int (nI x3), .int (nI x4)].toArray s_ 0 0 (fun _ => False)) (F0 m_ 34 ls [.int (bI ((decide (sKd (G 9) (I 0) p = 1) && decide (sEd (G 9) (I 0) p - p = 5))))]) := by
      intro _  ls hl
      refine lv_istore (lv' := [(7, .int (bI ((decide (sKd (G 9) (I 0) p = 1) && decide (sEd (G 9) (I 0) p - p = 5))))), (0, .ref (b 0)), (1, .int (nI x0)), (2, .int (nI x1)), (3, .int (nI x2)), (4, .int (nI x3)), (5, .int (nI x4)), (6, .int (nI 5))]) hz.1 hz.2.1 dX6_isWord_34 hl (by decide) rfl (fun ls hl => ?_)
      refine lv_iconst (v := nI 0) hz.1 hz.2.1 dX6_isWord_36 (by decide) ?_
      refine lv_istore (lv' := [(8, .int (nI 0)), (7, .int (bI ((decide (sKd (G 9) (I 0) p = 1) && decide (sEd (G 9) (I 0) p - p = 5))))), (0, .ref (b 0)), (1, .int (nI x0)), (2, .int (nI x1)), (3, .int (nI x2)), (4, .int (nI x3)), (5, .int (nI x4)), (6, .int (nI 5))]) hz.1 hz.2.1 dX6_isWord_37 hl (by decide) rfl (fun ls hl => ?_)
      have lp_39 : ∀ (fu : Nat) (j : Nat), (j ≤ 5) → 5 - j < fu → ∀ ls : Array Slot, lv_has ls 9 [(0, .ref (b 0)), (1, .int (nI x0)), (2, .int (nI x1)), (3, .int (nI x2)), (4, .int (nI x3)), (5, .int (nI x4)), (6, .int (nI 5)), (7, .int (bI (sAll (fun z_ => decide (G 9 (p + z_) = (c5 x0 x1 x2 x3 x4) z_)) j && (decide (sKd (G 9) (I 0) p = 1) && decide (sEd (G 9) (I 0) p - p = 5))))), (8, .int (nI j))] → W p_ l_ e_ ({ frames := 0, cells := 0, slots := 0, locals := 0 }) s_ m_ [.ref (b 0), .int (nI x0), .int (nI x1), .int (nI x2), .int (nI x3), .int (nI x4)].toArray bl_ me_ c_ s_.heap [] 0 0 (MQ bl_ (QcRead (bI (sW5 (G 9) (I 0) p x0 x1 x2 x3 x4))) [.ref (b 0), .int (nI x0), .int (nI x1), .int (nI x2), .int (nI x3), .int (nI x4)].toArray s_ 0 0 (fun _ => False)) (F0 m_ 39 ls []) := by
        intro fu
        induction fu with
        | zero => intro j hj hm; exact absurd hm (Nat.not_lt_zero _)
        | succ fu ih39 =>
          intro j hj hm ls hl
          refine lv_iload hz.1 hz.2.1 dX6_isWord_39 (lv_at hl 8 rfl) ?_
          refine lv_iload hz.1 hz.2.1 dX6_isWord_41 (lv_at hl 6 rfl) ?_
          refine jge (tgt := 121) hz dX6_isWord_43 (by decide) (by omega) (by omega) (fun c_43 => ?_) (fun c_43 => ?_)
          · refine lv_iload hz.1 hz.2.1 dX6_isWord_121 (lv_at hl 7 rfl) ?_
            exact rd_zret hz hr hlk dX6_isWord_123 (by rw [show j = 5 by omega, Bool.and_comm]; rfl)
          · refine lv_iload hz.1 hz.2.1 dX6_isWord_46 (lv_at hl 7 rfl) ?_
            refine zeq (tgt := 121) hz dX6_isWord_48 (by decide) (fun c_48 => ?_) (fun c_48 => ?_)
            · refine lv_iload hz.1 hz.2.1 dX6_isWord_121 (lv_at hl 7 rfl) ?_
              exact rd_zret hz hr hlk dX6_isWord_123 (by rw [c_48]; exact congrArg bI (show false = ((decide (sKd (G 9) (I 0) p = 1) && decide (sEd (G 9) (I 0) p - p = 5)) && sAll (fun z_ => decide (G 9 (p + z_) = (c5 x0 x1 x2 x3 x4) z_)) 5) by cases hq : (decide (sKd (G 9) (I 0) p = 1) && decide (sEd (G 9) (I 0) p - p = 5)) with | false => rfl | true => rw [hq, Bool.and_true] at c_48; rw [Bool.true_and, sAll_no c_48 5 hj]))
            · have hA := (Bool.and_eq_true_iff.mp c_48).1
              have hB : (decide (sKd (G 9) (I 0) p = 1) && decide (sEd (G 9) (I 0) p - p = 5)) = true := (Bool.and_eq_true_iff.mp c_48).2
              have hlg : sEd (G 9) (I 0) p - p = 5 := of_decide_eq_true (Bool.and_eq_true_iff.mp hB).2
              have hTb := hT (p + j)
              refine lv_aload_n hz.1 hz.2.1 dX6_isWord_51 rfl (lv_at hl 0 rfl) ?_
              refine rg hz hinX6_isWord hK hP 0 rfl rfl 11 (by decide) (List.mem_of_getElem? (i := 3) rfl) rfl (v := .ref (b 10)) rfl dX6_isWord_52 ?_
              refine lv_aload_n hz.1 hz.2.1 dX6_isWord_55 rfl (lv_at hl 0 rfl) ?_
              refine rg hz hinX6_isWord hK hP 0 rfl rfl 13 (by decide) (List.mem_of_getElem? (i := 4) rfl) rfl (v := .int (nI p)) rfl dX6_isWord_56 ?_
              refine lv_iload hz.1 hz.2.1 dX6_isWord_59 (lv_at hl 8 rfl) ?_
              refine lv_iadd hz.1 hz.2.1 dX6_isWord_61 ?_
              refine toe (z := nI (p + j)) (nI_add _ _) ?_
              refine rald hz hK hP 10 0 rfl rfl (i := (p + j)) (by omega) (by decide) (v := nI (G 9 (p + j))) rfl dX6_isWord_62 ?_
              refine lv_iload hz.1 hz.2.1 dX6_isWord_63 (lv_at hl 8 rfl) ?_
              refine jne0 (tgt := 72) hz dX6_isWord_65 (by decide) (by omega) (fun c_65 => ?_) (fun c_65 => ?_)
              · refine lv_iload hz.1 hz.2.1 dX6_isWord_72 (lv_at hl 8 rfl) ?_
                refine lv_iconst (v := nI 1) hz.1 hz.2.1 dX6_isWord_74 (by decide) ?_
                refine jne (tgt := 82) hz dX6_isWord_75 (by decide) (by omega) (by omega) (fun c_75 => ?_) (fun c_75 => ?_)
                · refine lv_iload hz.1 hz.2.1 dX6_isWord_82 (lv_at hl 8 rfl) ?_
                  refine lv_iconst (v := nI 2) hz.1 hz.2.1 dX6_isWord_84 (by decide) ?_
                  refine jne (tgt := 92) hz dX6_isWord_85 (by decide) (by omega) (by omega) (fun c_85 => ?_) (fun c_85 => ?_)
                  · refine lv_iload hz.1 hz.2.1 dX6_isWord_92 (lv_at hl 8 rfl) ?_
                    refine lv_iconst (v := nI 3) hz.1 hz.2.1 dX6_isWord_94 (by decide) ?_
                    refine jne (tgt := 103) hz dX6_isWord_95 (by decide) (by omega) (by omega) (fun c_95 => ?_) (fun c_95 => ?_)
                    · refine lv_iload hz.1 hz.2.1 dX6_isWord_103 (lv_at hl 5 rfl) ?_
                      refine jne (tgt := 112) hz dX6_isWord_105 (by decide) (by omega) (by omega) (fun c_105 => ?_) (fun c_105 => ?_)
                      · refine lv_iconst (v := nI 0) hz.1 hz.2.1 dX6_isWord_112 (by decide) ?_
                        refine toe (z := bI (sAll (fun z_ => decide (G 9 (p + z_) = (c5 x0 x1 x2 x3 x4) z_)) (j + 1) && (decide (sKd (G 9) (I 0) p = 1) && decide (sEd (G 9) (I 0) p - p = 5)))) (bI_0 (by show ((sAll (fun z_ => decide (G 9 (p + z_) = (c5 x0 x1 x2 x3 x4) z_)) j && decide (G 9 (p + j) = (c5 x0 x1 x2 x3 x4) j)) && (decide (sKd (G 9) (I 0) p = 1) && decide (sEd (G 9) (I 0) p - p = 5))) = false; rw [hA, hB, (show (c5 x0 x1 x2 x3 x4) j = x4 by simp [c5, c_65, c_75, c_85, c_95])]; simp [c_105])) ?_
                        refine lv_istore (lv' := [(7, .int (bI (sAll (fun z_ => decide (G 9 (p + z_) = (c5 x0 x1 x2 x3 x4) z_)) (j + 1) && (decide (sKd (G 9) (I 0) p = 1) && decide (sEd (G 9) (I 0) p - p = 5))))), (0, .ref (b 0)), (1, .int (nI x0)), (2, .int (nI x1)), (3, .int (nI x2)), (4, .int (nI x3)), (5, .int (nI x4)), (6, .int (nI 5)), (8, .int (nI j))]) hz.1 hz.2.1 dX6_isWord_113 hl (by decide) rfl (fun ls hl => ?_)
                        refine lv_iinc (v := nI (j + 1)) (lv' := [(8, .int (nI (j + 1))), (7, .int (bI (sAll (fun z_ => decide (G 9 (p + z_) = (c5 x0 x1 x2 x3 x4) z_)) (j + 1) && (decide (sKd (G 9) (I 0) p = 1) && decide (sEd (G 9) (I 0) p - p = 5))))), (0, .ref (b 0)), (1, .int (nI x0)), (2, .int (nI x1)), (3, .int (nI x2)), (4, .int (nI x3)), (5, .int (nI x4)), (6, .int (nI 5))]) hz.1 hz.2.1 dX6_isWord_115 hl (k := 8) rfl (nI_add _ 1) (by decide) rfl (fun ls hl => ?_)
                        refine lv_goto (tgt := 39) hz.1 hz.2.1 dX6_isWord_118 (by decide) ?_
                        exact ih39 (j + 1) (by omega) (by omega) ls (lv_sub hl [2, 3, 4, 5, 6, 7, 8, 1, 0] rfl)
                      · refine lv_iconst (v := nI 1) hz.1 hz.2.1 dX6_isWord_108 (by decide) ?_
                        refine lv_goto (tgt := 113) hz.1 hz.2.1 dX6_isWord_109 (by decide) ?_
                        refine toe (z := bI (sAll (fun z_ => decide (G 9 (p + z_) = (c5 x0 x1 x2 x3 x4) z_)) (j + 1) && (decide (sKd (G 9) (I 0) p = 1) && decide (sEd (G 9) (I 0) p - p = 5)))) (bI_1 (by show ((sAll (fun z_ => decide (G 9 (p + z_) = (c5 x0 x1 x2 x3 x4) z_)) j && decide (G 9 (p + j) = (c5 x0 x1 x2 x3 x4) j)) && (decide (sKd (G 9) (I 0) p = 1) && decide (sEd (G 9) (I 0) p - p = 5))) = true; rw [hA, hB, (show (c5 x0 x1 x2 x3 x4) j = x4 by simp [c5, c_65, c_75, c_85, c_95])]; simp [c_105])) ?_
                        refine lv_istore (lv' := [(7, .int (bI (sAll (fun z_ => decide (G 9 (p + z_) = (c5 x0 x1 x2 x3 x4) z_)) (j + 1) && (decide (sKd (G 9) (I 0) p = 1) && decide (sEd (G 9) (I 0) p - p = 5))))), (0, .ref (b 0)), (1, .int (nI x0)), (2, .int (nI x1)), (3, .int (nI x2)), (4, .int (nI x3)), (5, .int (nI x4)), (6, .int (nI 5)), (8, .int (nI j))]) hz.1 hz.2.1 dX6_isWord_113 hl (by decide) rfl (fun ls hl => ?_)
                        refine lv_iinc (v := nI (j + 1)) (lv' := [(8, .int (nI (j + 1))), (7, .int (bI (sAll (fun z_ => decide (G 9 (p + z_) = (c5 x0 x1 x2 x3 x4) z_)) (j + 1) && (decide (sKd (G 9) (I 0) p = 1) && decide (sEd (G 9) (I 0) p - p = 5))))), (0, .ref (b 0)), (1, .int (nI x0)), (2, .int (nI x1)), (3, .int (nI x2)), (4, .int (nI x3)), (5, .int (nI x4)), (6, .int (nI 5))]) hz.1 hz.2.1 dX6_isWord_115 hl (k := 8) rfl (nI_add _ 1) (by decide) rfl (fun ls hl => ?_)
                        refine lv_goto (tgt := 39) hz.1 hz.2.1 dX6_isWord_118 (by decide) ?_
                        exact ih39 (j + 1) (by omega) (by omega) ls (lv_sub hl [2, 3, 4, 5, 6, 7, 8, 1, 0] rfl)
                    · refine lv_iload hz.1 hz.2.1 dX6_isWord_98 (lv_at hl 4 rfl) ?_
                      refine lv_goto (tgt := 105) hz.1 hz.2.1 dX6_isWord_100 (by decide) ?_
                      refine jne (tgt := 112) hz dX6_isWord_105 (by decide) (by omega) (by omega) (fun c_105 => ?_) (fun c_105 => ?_)
                      · refine lv_iconst (v := nI 0) hz.1 hz.2.1 dX6_isWord_112 (by decide) ?_
                        refine toe (z := bI (sAll (fun z_ => decide (G 9 (p + z_) = (c5 x0 x1 x2 x3 x4) z_)) (j + 1) && (decide (sKd (G 9) (I 0) p = 1) && decide (sEd (G 9) (I 0) p - p = 5)))) (bI_0 (by show ((sAll (fun z_ => decide (G 9 (p + z_) = (c5 x0 x1 x2 x3 x4) z_)) j && decide (G 9 (p + j) = (c5 x0 x1 x2 x3 x4) j)) && (decide (sKd (G 9) (I 0) p = 1) && decide (sEd (G 9) (I 0) p - p = 5))) = false; rw [hA, hB, (show (c5 x0 x1 x2 x3 x4) j = x3 by simp [c5, c_65, c_75, c_85, c_95])]; simp [c_105])) ?_
                        refine lv_istore (lv' := [(7, .int (bI (sAll (fun z_ => decide (G 9 (p + z_) = (c5 x0 x1 x2 x3 x4) z_)) (j + 1) && (decide (sKd (G 9) (I 0) p = 1) && decide (sEd (G 9) (I 0) p - p = 5))))), (0, .ref (b 0)), (1, .int (nI x0)), (2, .int (nI x1)), (3, .int (nI x2)), (4, .int (nI x3)), (5, .int (nI x4)), (6, .int (nI 5)), (8, .int (nI j))]) hz.1 hz.2.1 dX6_isWord_113 hl (by decide) rfl (fun ls hl => ?_)
                        refine lv_iinc (v := nI (j + 1)) (lv' := [(8, .int (nI (j + 1))), (7, .int (bI (sAll (fun z_ => decide (G 9 (p + z_) = (c5 x0 x1 x2 x3 x4) z_)) (j + 1) && (decide (sKd (G 9) (I 0) p = 1) && decide (sEd (G 9) (I 0) p - p = 5))))), (0, .ref (b 0)), (1, .int (nI x0)), (2, .int (nI x1)), (3, .int (nI x2)), (4, .int (nI x3)), (5, .int (nI x4)), (6, .int (nI 5))]) hz.1 hz.2.1 dX6_isWord_115 hl (k := 8) rfl (nI_add _ 1) (by decide) rfl (fun ls hl => ?_)
                        refine lv_goto (tgt := 39) hz.1 hz.2.1 dX6_isWord_118 (by decide) ?_
                        exact ih39 (j + 1) (by omega) (by omega) ls (lv_sub hl [2, 3, 4, 5, 6, 7, 8, 1, 0] rfl)
                      · refine lv_iconst (v := nI 1) hz.1 hz.2.1 dX6_isWord_108 (by decide) ?_
                        refine lv_goto (tgt := 113) hz.1 hz.2.1 dX6_isWord_109 (by decide) ?_
                        refine toe (z := bI (sAll (fun z_ => decide (G 9 (p + z_) = (c5 x0 x1 x2 x3 x4) z_)) (j + 1) && (decide (sKd (G 9) (I 0) p = 1) && decide (sEd (G 9) (I 0) p - p = 5)))) (bI_1 (by show ((sAll (fun z_ => decide (G 9 (p + z_) = (c5 x0 x1 x2 x3 x4) z_)) j && decide (G 9 (p + j) = (c5 x0 x1 x2 x3 x4) j)) && (decide (sKd (G 9) (I 0) p = 1) && decide (sEd (G 9) (I 0) p - p = 5))) = true; rw [hA, hB, (show (c5 x0 x1 x2 x3 x4) j = x3 by simp [c5, c_65, c_75, c_85, c_95])]; simp [c_105])) ?_
                        refine lv_istore (lv' := [(7, .int (bI (sAll (fun z_ => decide (G 9 (p + z_) = (c5 x0 x1 x2 x3 x4) z_)) (j + 1) && (decide (sKd (G 9) (I 0) p = 1) && decide (sEd (G 9) (I 0) p - p = 5))))), (0, .ref (b 0)), (1, .int (nI x0)), (2, .int (nI x1)), (3, .int (nI x2)), (4, .int (nI x3)), (5, .int (nI x4)), (6, .int (nI 5)), (8, .int (nI j))]) hz.1 hz.2.1 dX6_isWord_113 hl (by decide) rfl (fun ls hl => ?_)
                        refine lv_iinc (v := nI (j + 1)) (lv' := [(8, .int (nI (j + 1))), (7, .int (bI (sAll (fun z_ => decide (G 9 (p + z_) = (c5 x0 x1 x2 x3 x4) z_)) (j + 1) && (decide (sKd (G 9) (I 0) p = 1) && decide (sEd (G 9) (I 0) p - p = 5))))), (0, .ref (b 0)), (1, .int (nI x0)), (2, .int (nI x1)), (3, .int (nI x2)), (4, .int (nI x3)), (5, .int (nI x4)), (6, .int (nI 5))]) hz.1 hz.2.1 dX6_isWord_115 hl (k := 8) rfl (nI_add _ 1) (by decide) rfl (fun ls hl => ?_)
                        refine lv_goto (tgt := 39) hz.1 hz.2.1 dX6_isWord_118 (by decide) ?_
                        exact ih39 (j + 1) (by omega) (by omega) ls (lv_sub hl [2, 3, 4, 5, 6, 7, 8, 1, 0] rfl)
                  · refine lv_iload_n hz.1 hz.2.1 dX6_isWord_88 rfl (lv_at hl 3 rfl) ?_
                    refine lv_goto (tgt := 105) hz.1 hz.2.1 dX6_isWord_89 (by decide) ?_
                    refine jne (tgt := 112) hz dX6_isWord_105 (by decide) (by omega) (by omega) (fun c_105 => ?_) (fun c_105 => ?_)
                    · refine lv_iconst (v := nI 0) hz.1 hz.2.1 dX6_isWord_112 (by decide) ?_
                      refine toe (z := bI (sAll (fun z_ => decide (G 9 (p + z_) = (c5 x0 x1 x2 x3 x4) z_)) (j + 1) && (decide (sKd (G 9) (I 0) p = 1) && decide (sEd (G 9) (I 0) p - p = 5)))) (bI_0 (by show ((sAll (fun z_ => decide (G 9 (p + z_) = (c5 x0 x1 x2 x3 x4) z_)) j && decide (G 9 (p + j) = (c5 x0 x1 x2 x3 x4) j)) && (decide (sKd (G 9) (I 0) p = 1) && decide (sEd (G 9) (I 0) p - p = 5))) = false; rw [hA, hB, (show (c5 x0 x1 x2 x3 x4) j = x2 by simp [c5, c_65, c_75, c_85])]; simp [c_105])) ?_
                      refine lv_istore (lv' := [(7, .int (bI (sAll (fun z_ => decide (G 9 (p + z_) = (c5 x0 x1 x2 x3 x4) z_)) (j + 1) && (decide (sKd (G 9) (I 0) p = 1) && decide (sEd (G 9) (I 0) p - p = 5))))), (0, .ref (b 0)), (1, .int (nI x0)), (2, .int (nI x1)), (3, .int (nI x2)), (4, .int (nI x3)), (5, .int (nI x4)), (6, .int (nI 5)), (8, .int (nI j))]) hz.1 hz.2.1 dX6_isWord_113 hl (by decide) rfl (fun ls hl => ?_)
                      refine lv_iinc (v := nI (j + 1)) (lv' := [(8, .int (nI (j + 1))), (7, .int (bI (sAll (fun z_ => decide (G 9 (p + z_) = (c5 x0 x1 x2 x3 x4) z_)) (j + 1) && (decide (sKd (G 9) (I 0) p = 1) && decide (sEd (G 9) (I 0) p - p = 5))))), (0, .ref (b 0)), (1, .int (nI x0)), (2, .int (nI x1)), (3, .int (nI x2)), (4, .int (nI x3)), (5, .int (nI x4)), (6, .int (nI 5))]) hz.1 hz.2.1 dX6_isWord_115 hl (k := 8) rfl (nI_add _ 1) (by decide) rfl (fun ls hl => ?_)
                      refine lv_goto (tgt := 39) hz.1 hz.2.1 dX6_isWord_118 (by decide) ?_
                      exact ih39 (j + 1) (by omega) (by omega) ls (lv_sub hl [2, 3, 4, 5, 6, 7, 8, 1, 0] rfl)
                    · refine lv_iconst (v := nI 1) hz.1 hz.2.1 dX6_isWord_108 (by decide) ?_
                      refine lv_goto (tgt := 113) hz.1 hz.2.1 dX6_isWord_109 (by decide) ?_
                      refine toe (z := bI (sAll (fun z_ => decide (G 9 (p + z_) = (c5 x0 x1 x2 x3 x4) z_)) (j + 1) && (decide (sKd (G 9) (I 0) p = 1) && decide (sEd (G 9) (I 0) p - p = 5)))) (bI_1 (by show ((sAll (fun z_ => decide (G 9 (p + z_) = (c5 x0 x1 x2 x3 x4) z_)) j && decide (G 9 (p + j) = (c5 x0 x1 x2 x3 x4) j)) && (decide (sKd (G 9) (I 0) p = 1) && decide (sEd (G 9) (I 0) p - p = 5))) = true; rw [hA, hB, (show (c5 x0 x1 x2 x3 x4) j = x2 by simp [c5, c_65, c_75, c_85])]; simp [c_105])) ?_
                      refine lv_istore (lv' := [(7, .int (bI (sAll (fun z_ => decide (G 9 (p + z_) = (c5 x0 x1 x2 x3 x4) z_)) (j + 1) && (decide (sKd (G 9) (I 0) p = 1) && decide (sEd (G 9) (I 0) p - p = 5))))), (0, .ref (b 0)), (1, .int (nI x0)), (2, .int (nI x1)), (3, .int (nI x2)), (4, .int (nI x3)), (5, .int (nI x4)), (6, .int (nI 5)), (8, .int (nI j))]) hz.1 hz.2.1 dX6_isWord_113 hl (by decide) rfl (fun ls hl => ?_)
                      refine lv_iinc (v := nI (j + 1)) (lv' := [(8, .int (nI (j + 1))), (7, .int (bI (sAll (fun z_ => decide (G 9 (p + z_) = (c5 x0 x1 x2 x3 x4) z_)) (j + 1) && (decide (sKd (G 9) (I 0) p = 1) && decide (sEd (G 9) (I 0) p - p = 5))))), (0, .ref (b 0)), (1, .int (nI x0)), (2, .int (nI x1)), (3, .int (nI x2)), (4, .int (nI x3)), (5, .int (nI x4)), (6, .int (nI 5))]) hz.1 hz.2.1 dX6_isWord_115 hl (k := 8) rfl (nI_add _ 1) (by decide) rfl (fun ls hl => ?_)
                      refine lv_goto (tgt := 39) hz.1 hz.2.1 dX6_isWord_118 (by decide) ?_
                      exact ih39 (j + 1) (by omega) (by omega) ls (lv_sub hl [2, 3, 4, 5, 6, 7, 8, 1, 0] rfl)
                · refine lv_iload_n hz.1 hz.2.1 dX6_isWord_78 rfl (lv_at hl 2 rfl) ?_
                  refine lv_goto (tgt := 105) hz.1 hz.2.1 dX6_isWord_79 (by decide) ?_
                  refine jne (tgt := 112) hz dX6_isWord_105 (by decide) (by omega) (by omega) (fun c_105 => ?_) (fun c_105 => ?_)
                  · refine lv_iconst (v := nI 0) hz.1 hz.2.1 dX6_isWord_112 (by decide) ?_
                    refine toe (z := bI (sAll (fun z_ => decide (G 9 (p + z_) = (c5 x0 x1 x2 x3 x4) z_)) (j + 1) && (decide (sKd (G 9) (I 0) p = 1) && decide (sEd (G 9) (I 0) p - p = 5)))) (bI_0 (by show ((sAll (fun z_ => decide (G 9 (p + z_) = (c5 x0 x1 x2 x3 x4) z_)) j && decide (G 9 (p + j) = (c5 x0 x1 x2 x3 x4) j)) && (decide (sKd (G 9) (I 0) p = 1) && decide (sEd (G 9) (I 0) p - p = 5))) = false; rw [hA, hB, (show (c5 x0 x1 x2 x3 x4) j = x1 by simp [c5, c_65, c_75])]; simp [c_105])) ?_
                    refine lv_istore (lv' := [(7, .int (bI (sAll (fun z_ => decide (G 9 (p + z_) = (c5 x0 x1 x2 x3 x4) z_)) (j + 1) && (decide (sKd (G 9) (I 0) p = 1) && decide (sEd (G 9) (I 0) p - p = 5))))), (0, .ref (b 0)), (1, .int (nI x0)), (2, .int (nI x1)), (3, .int (nI x2)), (4, .int (nI x3)), (5, .int (nI x4)), (6, .int (nI 5)), (8, .int (nI j))]) hz.1 hz.2.1 dX6_isWord_113 hl (by decide) rfl (fun ls hl => ?_)
                    refine lv_iinc (v := nI (j + 1)) (lv' := [(8, .int (nI (j + 1))), (7, .int (bI (sAll (fun z_ => decide (G 9 (p + z_) = (c5 x0 x1 x2 x3 x4) z_)) (j + 1) && (decide (sKd (G 9) (I 0) p = 1) && decide (sEd (G 9) (I 0) p - p = 5))))), (0, .ref (b 0)), (1, .int (nI x0)), (2, .int (nI x1)), (3, .int (nI x2)), (4, .int (nI x3)), (5, .int (nI x4)), (6, .int (nI 5))]) hz.1 hz.2.1 dX6_isWord_115 hl (k := 8) rfl (nI_add _ 1) (by decide) rfl (fun ls hl => ?_)
                    refine lv_goto (tgt := 39) hz.1 hz.2.1 dX6_isWord_118 (by decide) ?_
                    exact ih39 (j + 1) (by omega) (by omega) ls (lv_sub hl [2, 3, 4, 5, 6, 7, 8, 1, 0] rfl)
                  · refine lv_iconst (v := nI 1) hz.1 hz.2.1 dX6_isWord_108 (by decide) ?_
                    refine lv_goto (tgt := 113) hz.1 hz.2.1 dX6_isWord_109 (by decide) ?_
                    refine toe (z := bI (sAll (fun z_ => decide (G 9 (p + z_) = (c5 x0 x1 x2 x3 x4) z_)) (j + 1) && (decide (sKd (G 9) (I 0) p = 1) && decide (sEd (G 9) (I 0) p - p = 5)))) (bI_1 (by show ((sAll (fun z_ => decide (G 9 (p + z_) = (c5 x0 x1 x2 x3 x4) z_)) j && decide (G 9 (p + j) = (c5 x0 x1 x2 x3 x4) j)) && (decide (sKd (G 9) (I 0) p = 1) && decide (sEd (G 9) (I 0) p - p = 5))) = true; rw [hA, hB, (show (c5 x0 x1 x2 x3 x4) j = x1 by simp [c5, c_65, c_75])]; simp [c_105])) ?_
                    refine lv_istore (lv' := [(7, .int (bI (sAll (fun z_ => decide (G 9 (p + z_) = (c5 x0 x1 x2 x3 x4) z_)) (j + 1) && (decide (sKd (G 9) (I 0) p = 1) && decide (sEd (G 9) (I 0) p - p = 5))))), (0, .ref (b 0)), (1, .int (nI x0)), (2, .int (nI x1)), (3, .int (nI x2)), (4, .int (nI x3)), (5, .int (nI x4)), (6, .int (nI 5)), (8, .int (nI j))]) hz.1 hz.2.1 dX6_isWord_113 hl (by decide) rfl (fun ls hl => ?_)
                    refine lv_iinc (v := nI (j + 1)) (lv' := [(8, .int (nI (j + 1))), (7, .int (bI (sAll (fun z_ => decide (G 9 (p + z_) = (c5 x0 x1 x2 x3 x4) z_)) (j + 1) && (decide (sKd (G 9) (I 0) p = 1) && decide (sEd (G 9) (I 0) p - p = 5))))), (0, .ref (b 0)), (1, .int (nI x0)), (2, .int (nI x1)), (3, .int (nI x2)), (4, .int (nI x3)), (5, .int (nI x4)), (6, .int (nI 5))]) hz.1 hz.2.1 dX6_isWord_115 hl (k := 8) rfl (nI_add _ 1) (by decide) rfl (fun ls hl => ?_)
                    refine lv_goto (tgt := 39) hz.1 hz.2.1 dX6_isWord_118 (by decide) ?_
                    exact ih39 (j + 1) (by omega) (by omega) ls (lv_sub hl [2, 3, 4, 5, 6, 7, 8, 1, 0] rfl)
              · refine lv_iload_n hz.1 hz.2.1 dX6_isWord_68 rfl (lv_at hl 1 rfl) ?_
                refine lv_goto (tgt := 105) hz.1 hz.2.1 dX6_isWord_69 (by decide) ?_
                refine jne (tgt := 112) hz dX6_isWord_105 (by decide) (by omega) (by omega) (fun c_105 => ?_) (fun c_105 => ?_)
                · refine lv_iconst (v := nI 0) hz.1 hz.2.1 dX6_isWord_112 (by decide) ?_
                  refine toe (z := bI (sAll (fun z_ => decide (G 9 (p + z_) = (c5 x0 x1 x2 x3 x4) z_)) (j + 1) && (decide (sKd (G 9) (I 0) p = 1) && decide (sEd (G 9) (I 0) p - p = 5)))) (bI_0 (by show ((sAll (fun z_ => decide (G 9 (p + z_) = (c5 x0 x1 x2 x3 x4) z_)) j && decide (G 9 (p + j) = (c5 x0 x1 x2 x3 x4) j)) && (decide (sKd (G 9) (I 0) p = 1) && decide (sEd (G 9) (I 0) p - p = 5))) = false; rw [hA, hB, (show (c5 x0 x1 x2 x3 x4) j = x0 by simp [c5, c_65])]; simp [c_105])) ?_
                  refine lv_istore (lv' := [(7, .int (bI (sAll (fun z_ => decide (G 9 (p + z_) = (c5 x0 x1 x2 x3 x4) z_)) (j + 1) && (decide (sKd (G 9) (I 0) p = 1) && decide (sEd (G 9) (I 0) p - p = 5))))), (0, .ref (b 0)), (1, .int (nI x0)), (2, .int (nI x1)), (3, .int (nI x2)), (4, .int (nI x3)), (5, .int (nI x4)), (6, .int (nI 5)), (8, .int (nI j))]) hz.1 hz.2.1 dX6_isWord_113 hl (by decide) rfl (fun ls hl => ?_)
                  refine lv_iinc (v := nI (j + 1)) (lv' := [(8, .int (nI (j + 1))), (7, .int (bI (sAll (fun z_ => decide (G 9 (p + z_) = (c5 x0 x1 x2 x3 x4) z_)) (j + 1) && (decide (sKd (G 9) (I 0) p = 1) && decide (sEd (G 9) (I 0) p - p = 5))))), (0, .ref (b 0)), (1, .int (nI x0)), (2, .int (nI x1)), (3, .int (nI x2)), (4, .int (nI x3)), (5, .int (nI x4)), (6, .int (nI 5))]) hz.1 hz.2.1 dX6_isWord_115 hl (k := 8) rfl (nI_add _ 1) (by decide) rfl (fun ls hl => ?_)
                  refine lv_goto (tgt := 39) hz.1 hz.2.1 dX6_isWord_118 (by decide) ?_
                  exact ih39 (j + 1) (by omega) (by omega) ls (lv_sub hl [2, 3, 4, 5, 6, 7, 8, 1, 0] rfl)
                · refine lv_iconst (v := nI 1) hz.1 hz.2.1 dX6_isWord_108 (by decide) ?_
                  refine lv_goto (tgt := 113) hz.1 hz.2.1 dX6_isWord_109 (by decide) ?_
                  refine toe (z := bI (sAll (fun z_ => decide (G 9 (p + z_) = (c5 x0 x1 x2 x3 x4) z_)) (j + 1) && (decide (sKd (G 9) (I 0) p = 1) && decide (sEd (G 9) (I 0) p - p = 5)))) (bI_1 (by show ((sAll (fun z_ => decide (G 9 (p + z_) = (c5 x0 x1 x2 x3 x4) z_)) j && decide (G 9 (p + j) = (c5 x0 x1 x2 x3 x4) j)) && (decide (sKd (G 9) (I 0) p = 1) && decide (sEd (G 9) (I 0) p - p = 5))) = true; rw [hA, hB, (show (c5 x0 x1 x2 x3 x4) j = x0 by simp [c5, c_65])]; simp [c_105])) ?_
                  refine lv_istore (lv' := [(7, .int (bI (sAll (fun z_ => decide (G 9 (p + z_) = (c5 x0 x1 x2 x3 x4) z_)) (j + 1) && (decide (sKd (G 9) (I 0) p = 1) && decide (sEd (G 9) (I 0) p - p = 5))))), (0, .ref (b 0)), (1, .int (nI x0)), (2, .int (nI x1)), (3, .int (nI x2)), (4, .int (nI x3)), (5, .int (nI x4)), (6, .int (nI 5)), (8, .int (nI j))]) hz.1 hz.2.1 dX6_isWord_113 hl (by decide) rfl (fun ls hl => ?_)
                  refine lv_iinc (v := nI (j + 1)) (lv' := [(8, .int (nI (j + 1))), (7, .int (bI (sAll (fun z_ => decide (G 9 (p + z_) = (c5 x0 x1 x2 x3 x4) z_)) (j + 1) && (decide (sKd (G 9) (I 0) p = 1) && decide (sEd (G 9) (I 0) p - p = 5))))), (0, .ref (b 0)), (1, .int (nI x0)), (2, .int (nI x1)), (3, .int (nI x2)), (4, .int (nI x3)), (5, .int (nI x4)), (6, .int (nI 5))]) hz.1 hz.2.1 dX6_isWord_115 hl (k := 8) rfl (nI_add _ 1) (by decide) rfl (fun ls hl => ?_)
                  refine lv_goto (tgt := 39) hz.1 hz.2.1 dX6_isWord_118 (by decide) ?_
                  exact ih39 (j + 1) (by omega) (by omega) ls (lv_sub hl [2, 3, 4, 5, 6, 7, 8, 1, 0] rfl)
      exact lp_39 _ 0 (by omega) (Nat.lt_succ_self _) ls (lv_sub hl [2, 3, 4, 5, 6, 7, 8, 1, 0] rfl)
    refine lv_aload_n hz.1 hz.2.1 dX6_isWord_12 rfl (lv_at hl 1 rfl) ?_
    refine rg hz hinX6_isWord hK hP 0 rfl rfl 15 (by decide) (List.mem_of_getElem? (i := 1) rfl) rfl (v := .int (nI (sKd (G 9) (I 0) p))) rfl dX6_isWord_13 ?_
    refine lv_iconst (v := nI 1) hz.1 hz.2.1 dX6_isWord_16 (by decide) ?_
    refine jne (tgt := 33) hz dX6_isWord_17 (by decide) (by omega) (by omega) (fun c_17 => ?_) (fun c_17 => ?_)
    · refine lv_iconst (v := nI 0) hz.1 hz.2.1 dX6_isWord_33 (by decide) ?_
      refine toe (z := bI (decide (sKd (G 9) (I 0) p = 1) && decide (sEd (G 9) (I 0) p - p = 5))) (bI_0 (by simp [c_17])) ?_
      exact jn_34 (())  ls (lv_sub hl [1, 2, 3, 4, 5, 6, 0] rfl)
    · refine lv_aload_n hz.1 hz.2.1 dX6_isWord_20 rfl (lv_at hl 1 rfl) ?_
      refine rg hz hinX6_isWord hK hP 0 rfl rfl 14 (by decide) (List.mem_of_getElem? (i := 2) rfl) rfl (v := .int (nI (sEd (G 9) (I 0) p - p))) rfl dX6_isWord_21 ?_
      refine lv_iload hz.1 hz.2.1 dX6_isWord_24 (lv_at hl 0 rfl) ?_
      refine jne (tgt := 33) hz dX6_isWord_26 (by decide) (by omega) (by omega) (fun c_26 => ?_) (fun c_26 => ?_)
      · refine lv_iconst (v := nI 0) hz.1 hz.2.1 dX6_isWord_33 (by decide) ?_
        refine toe (z := bI (decide (sKd (G 9) (I 0) p = 1) && decide (sEd (G 9) (I 0) p - p = 5))) (bI_0 (by simp [c_26])) ?_
        exact jn_34 (())  ls (lv_sub hl [1, 2, 3, 4, 5, 6, 0] rfl)
      · refine lv_iconst (v := nI 1) hz.1 hz.2.1 dX6_isWord_29 (by decide) ?_
        refine lv_goto (tgt := 34) hz.1 hz.2.1 dX6_isWord_30 (by decide) ?_
        refine toe (z := bI (decide (sKd (G 9) (I 0) p = 1) && decide (sEd (G 9) (I 0) p - p = 5))) (bI_1 (by simp [c_17, c_26])) ?_
        exact jn_34 (())  ls (lv_sub hl [1, 2, 3, 4, 5, 6, 0] rfl)
  · exact absurd c_2 hz4

theorem hinX6_takes : ∀ w ∈ wsX60, w ∈ wsX6_takes := fun _ h => List.mem_cons_of_mem _ (List.mem_append_right _ h)
set_option maxHeartbeats 4000000 in
set_option maxRecDepth 100000 in
theorem c6_takes_yes (l_ : Launch) (D : va_G) (k : Nat → ClassId) (b I J : Nat → Nat) (G : Nat → Nat → Nat) (p kk lo hi : Nat) (hL : I 0 ≤ 200) (hp : p ≤ I 0) (hT : ∀ j, G 9 j < 256) (hk : kk < 3) (hhi : hi < 1000) (hn : sNum (G 9) (I 0) p lo hi) : Met l_ yX6_takes wsX6_takes ({ frames := 4, cells := 0, slots := 0, locals := 89 }) (va_Pc [.ref (b 0), .int (nI kk), .int (nI lo), .int (nI hi)] (wH YT D k (mw b k (nset (nset (nset (nset I 1 p) 2 (sEd (G 9) (I 0) p - p)) 3 (sKd (G 9) (I 0) p)) 4 (sVl (G 9) (I 0) p)) J G))) (va_Qi (fun (r : Int32) (u : Unit) => r = bI true) (fun (u : Unit) (t_ : State) => va_P D vwCl ((fun (_ : Unit) => mw b k (nset (nset (nset (nset I 1 (sNx (G 9) (I 0) p)) 2 (sEd (G 9) (I 0) (sNx (G 9) (I 0) p) - (sNx (G 9) (I 0) p))) 3 (sKd (G 9) (I 0) (sNx (G 9) (I 0) p))) 4 (sVl (G 9) (I 0) (sNx (G 9) (I 0) p))) J (gset G 11 (nset (G 11) kk (sVl (G 9) (I 0) p)))) u) t_.heap) (wA (mw b k (nset (nset (nset (nset I 1 p) 2 (sEd (G 9) (I 0) p - p)) 3 (sKd (G 9) (I 0) p)) 4 (sVl (G 9) (I 0) p)) J G))) 0 0 (wA (mw b k (nset (nset (nset (nset I 1 p) 2 (sEd (G 9) (I 0) p - p)) 3 (sKd (G 9) (I 0) p)) 4 (sVl (G 9) (I 0) p)) J G)) := by
  refine my_entry (cc := cX6_takes) (maxL := 4) (ret := some .boolean) (by decide) rfl (Nat.le_of_ble_eq_true rfl) ?_
  intro p_ e_ s_ m_ bl_ me_ c_ hz hr hlk hB ls hl
  obtain ⟨hP, hK, hD0, -⟩ := hB
  have hD := wA.self hD0
  have hS : va_S (wA (mw b k (nset (nset (nset (nset I 1 p) 2 (sEd (G 9) (I 0) p - p)) 3 (sKd (G 9) (I 0) p)) 4 (sVl (G 9) (I 0) p)) J G)) s_.heap s_.heap [] := va_S.rf
  have hl : lv_has ls 4 [(0, .ref (b 0)), (1, .int (nI kk)), (2, .int (nI lo)), (3, .int (nI hi))] := hl
  obtain ⟨n1, n2, n3⟩ := hn
  have hv := sVl_lt (L := I 0) (p := p) hT
  refine lv_aload_n hz.1 hz.2.1 dX6_takes_0 rfl (lv_at hl 0 rfl) ?_
  refine rg hz hinX6_takes hK hP 0 rfl rfl 15 (by decide) (List.mem_of_getElem? (i := 1) rfl) rfl (v := .int (nI (sKd (G 9) (I 0) p))) rfl dX6_takes_1 ?_
  refine lv_iconst (v := nI 2) hz.1 hz.2.1 dX6_takes_4 (by decide) ?_
  refine jne (tgt := 23) hz dX6_takes_5 (by decide) (by omega) (by omega) (fun c_5 => ?_) (fun c_5 => ?_)
  · exact absurd n1 c_5
  · refine lv_aload_n hz.1 hz.2.1 dX6_takes_8 rfl (lv_at hl 0 rfl) ?_
    refine rg hz hinX6_takes hK hP 0 rfl rfl 16 (by decide) (List.mem_of_getElem? (i := 2) rfl) rfl (v := .int (nI (sVl (G 9) (I 0) p))) rfl dX6_takes_9 ?_
    refine lv_i2l (v := (nI (sVl (G 9) (I 0) p)).toInt64) hz.1 hz.2.1 dX6_takes_12 (rfl) ?_
    refine lv_iload_n hz.1 hz.2.1 dX6_takes_13 rfl (lv_at hl 2 rfl) ?_
    refine lv_i2l (v := lN lo) hz.1 hz.2.1 dX6_takes_14 (nI_l (by omega)) ?_
    refine lv_iload_n hz.1 hz.2.1 dX6_takes_15 rfl (lv_at hl 3 rfl) ?_
    refine lv_i2l (v := lN hi) hz.1 hz.2.1 dX6_takes_16 (nI_l (by omega)) ?_
    refine rdS (As := [.long ((nI (sVl (G 9) (I 0) p)).toInt64), .long (lN lo), .long (lN hi)]) (rest := []) hz (c6_in l_ (nI (sVl (G 9) (I 0) p)) lo hi (by omega) (by omega)) rfl (va_cwS 3 hz.2.2.2.2 gX6_takes_X6_in rfl rfl rfl (by decide +kernel) ⟨Nat.le_of_ble_eq_true rfl, Nat.le_of_ble_eq_true rfl⟩) rfl hl.1 rfl (Nat.le_of_ble_eq_true rfl) dX6_takes_17 ⟨Nat.zero_le _, Nat.zero_le _⟩ ?_
    refine zne (tgt := 25) hz dX6_takes_20 (by decide) (fun c_20 => ?_) (fun c_20 => ?_)
    · refine lv_aload_n hz.1 hz.2.1 dX6_takes_25 rfl (lv_at hl 0 rfl) ?_
      refine rg hz hinX6_takes hK hP 0 rfl rfl 18 (by decide) (List.mem_of_getElem? (i := 3) rfl) rfl (v := .ref (b 12)) rfl dX6_takes_26 ?_
      refine lv_iload_n hz.1 hz.2.1 dX6_takes_29 rfl (lv_at hl 1 rfl) ?_
      refine lv_aload_n hz.1 hz.2.1 dX6_takes_30 rfl (lv_at hl 0 rfl) ?_
      refine rg hz hinX6_takes hK hP 0 rfl rfl 16 (by decide) (List.mem_of_getElem? (i := 2) rfl) rfl (v := .int (nI (sVl (G 9) (I 0) p))) rfl dX6_takes_31 ?_
      refine rast hz hK hP hD hS 12 0 rfl rfl (i := kk) (v := (sVl (G 9) (I 0) p)) (by omega) (by decide) dX6_takes_34 (fun H locs hP hS => ?_)
      have hP : va_P D vwCl (mw b k (nset (nset (nset (nset I 1 p) 2 (sEd (G 9) (I 0) p - p)) 3 (sKd (G 9) (I 0) p)) 4 (sVl (G 9) (I 0) p)) J (gset G 11 (nset (G 11) kk (sVl (G 9) (I 0) p)))) H := hP
      have hD := mw_D (I' := nset (nset (nset (nset I 1 p) 2 (sEd (G 9) (I 0) p - p)) 3 (sKd (G 9) (I 0) p)) 4 (sVl (G 9) (I 0) p)) (J' := J) (G' := gset G 11 (nset (G 11) kk (sVl (G 9) (I 0) p))) hD
      refine lv_aload_n hz.1 hz.2.1 dX6_takes_35 rfl (lv_at hl 0 rfl) ?_
      refine wrVv (A := wA (mw b k (nset (nset (nset (nset I 1 p) 2 (sEd (G 9) (I 0) p - p)) 3 (sKd (G 9) (I 0) p)) 4 (sVl (G 9) (I 0) p)) J G)) (As := []) (rest := []) hz okYT (c6_goOn l_ D k b I J (gset G 11 (nset (G 11) kk (sVl (G 9) (I 0) p))) p  hL (by omega) hT) (cwV 0 hz.2.2.2.2 gX6_takes_X6_goOn rfl rfl rfl (by decide +kernel) ⟨Nat.le_of_ble_eq_true rfl, Nat.le_of_ble_eq_true rfl⟩) hK trivial hP hD hS 0 6 rfl rfl rfl rfl hl.1 rfl (Nat.le_of_ble_eq_true rfl) dX6_takes_36 ⟨Nat.zero_le _, Nat.zero_le _⟩ (fun u H locs hp hP hS _ => ?_)
      have hP : va_P D vwCl (mw b k (nset (nset (nset (nset I 1 (sNx (G 9) (I 0) p)) 2 (sEd (G 9) (I 0) (sNx (G 9) (I 0) p) - (sNx (G 9) (I 0) p))) 3 (sKd (G 9) (I 0) (sNx (G 9) (I 0) p))) 4 (sVl (G 9) (I 0) (sNx (G 9) (I 0) p))) J (gset G 11 (nset (G 11) kk (sVl (G 9) (I 0) p)))) H := hP
      have hD := mw_D (I' := nset (nset (nset (nset I 1 (sNx (G 9) (I 0) p)) 2 (sEd (G 9) (I 0) (sNx (G 9) (I 0) p) - (sNx (G 9) (I 0) p))) 3 (sKd (G 9) (I 0) (sNx (G 9) (I 0) p))) 4 (sVl (G 9) (I 0) (sNx (G 9) (I 0) p))) (J' := J) (G' := gset G 11 (nset (G 11) kk (sVl (G 9) (I 0) p))) hD
      refine lv_iconst (v := nI 1) hz.1 hz.2.1 dX6_takes_39 (by decide) ?_
      exact wr_zret hz hr hlk dX6_takes_40 hS (rfl) (()) hP (rfl)
    · exact absurd ((wIn_ok (by omega) (by omega) (by omega)).symm.trans c_20) (by decide)

set_option maxHeartbeats 4000000 in
set_option maxRecDepth 100000 in
theorem c6_takes_no (l_ : Launch) (D : va_G) (k : Nat → ClassId) (b I J : Nat → Nat) (G : Nat → Nat → Nat) (p kk lo hi : Nat) (hL : I 0 ≤ 200) (hp : p ≤ I 0) (hT : ∀ j, G 9 j < 256) (hk : kk < 3) (hhi : hi < 1000) (hlo : lo < 1000) (hn : ¬ sNum (G 9) (I 0) p lo hi) : Met l_ yX6_takes wsX6_takes ({ frames := 1, cells := 0, slots := 0, locals := 25 }) (va_Pc [.ref (b 0), .int (nI kk), .int (nI lo), .int (nI hi)] (wH YT D k (mw b k (nset (nset (nset (nset I 1 p) 2 (sEd (G 9) (I 0) p - p)) 3 (sKd (G 9) (I 0) p)) 4 (sVl (G 9) (I 0) p)) J G))) (QcRead (bI false)) 0 0 (fun _ => False) := by
  refine my_entry (cc := cX6_takes) (maxL := 4) (ret := some .boolean) (by decide) rfl (Nat.le_of_ble_eq_true rfl) ?_
  intro p_ e_ s_ m_ bl_ me_ c_ hz hr hlk hB ls hl
  obtain ⟨hP, hK, hD0, -⟩ := hB
  have hD := wA.self hD0
  have hS : va_S (wA (mw b k (nset (nset (nset (nset I 1 p) 2 (sEd (G 9) (I 0) p - p)) 3 (sKd (G 9) (I 0) p)) 4 (sVl (G 9) (I 0) p)) J G)) s_.heap s_.heap [] := va_S.rf
  have hl : lv_has ls 4 [(0, .ref (b 0)), (1, .int (nI kk)), (2, .int (nI lo)), (3, .int (nI hi))] := hl
  have hv := sVl_lt (L := I 0) (p := p) hT
  have hk4 := sKd_le (G 9) (I 0) p
  refine lv_aload_n hz.1 hz.2.1 dX6_takes_0 rfl (lv_at hl 0 rfl) ?_
  refine rg hz hinX6_takes hK hP 0 rfl rfl 15 (by decide) (List.mem_of_getElem? (i := 1) rfl) rfl (v := .int (nI (sKd (G 9) (I 0) p))) rfl dX6_takes_1 ?_
  refine lv_iconst (v := nI 2) hz.1 hz.2.1 dX6_takes_4 (by decide) ?_
  refine jne (tgt := 23) hz dX6_takes_5 (by decide) (by omega) (by omega) (fun c_5 => ?_) (fun c_5 => ?_)
  · refine lv_iconst (v := nI 0) hz.1 hz.2.1 dX6_takes_23 (by decide) ?_
    exact rd_zret hz hr hlk dX6_takes_24 (rfl)
  · refine lv_aload_n hz.1 hz.2.1 dX6_takes_8 rfl (lv_at hl 0 rfl) ?_
    refine rg hz hinX6_takes hK hP 0 rfl rfl 16 (by decide) (List.mem_of_getElem? (i := 2) rfl) rfl (v := .int (nI (sVl (G 9) (I 0) p))) rfl dX6_takes_9 ?_
    refine lv_i2l (v := (nI (sVl (G 9) (I 0) p)).toInt64) hz.1 hz.2.1 dX6_takes_12 (rfl) ?_
    refine lv_iload_n hz.1 hz.2.1 dX6_takes_13 rfl (lv_at hl 2 rfl) ?_
    refine lv_i2l (v := lN lo) hz.1 hz.2.1 dX6_takes_14 (nI_l (by omega)) ?_
    refine lv_iload_n hz.1 hz.2.1 dX6_takes_15 rfl (lv_at hl 3 rfl) ?_
    refine lv_i2l (v := lN hi) hz.1 hz.2.1 dX6_takes_16 (nI_l (by omega)) ?_
    refine rdS (As := [.long ((nI (sVl (G 9) (I 0) p)).toInt64), .long (lN lo), .long (lN hi)]) (rest := []) hz (c6_in l_ (nI (sVl (G 9) (I 0) p)) lo hi (by omega) (by omega)) rfl (va_cwS 3 hz.2.2.2.2 gX6_takes_X6_in rfl rfl rfl (by decide +kernel) ⟨Nat.le_of_ble_eq_true rfl, Nat.le_of_ble_eq_true rfl⟩) rfl hl.1 rfl (Nat.le_of_ble_eq_true rfl) dX6_takes_17 ⟨Nat.zero_le _, Nat.zero_le _⟩ ?_
    refine zne (tgt := 25) hz dX6_takes_20 (by decide) (fun c_20 => ?_) (fun c_20 => ?_)
    · exfalso; rw [wIn_n (by omega) (by omega) (by omega)] at c_20; simp only [Bool.and_eq_true, decide_eq_true_eq] at c_20; exact hn ⟨c_5, c_20⟩
    · refine lv_iconst (v := nI 0) hz.1 hz.2.1 dX6_takes_23 (by decide) ?_
      exact rd_zret hz hr hlk dX6_takes_24 (rfl)

theorem hinX6_lastWire : ∀ w ∈ wsX60, w ∈ wsX6_lastWire := fun _ h => List.mem_cons_of_mem _ (List.mem_append_right _ h)
set_option maxHeartbeats 4000000 in
set_option maxRecDepth 100000 in
theorem c6_lastWire (l_ : Launch) (D : va_G) (k : Nat → ClassId) (b I J : Nat → Nat) (G : Nat → Nat → Nat)  (h : 2 ≤ G 10 0) : Met l_ yX6_lastWire wsX6_lastWire ({ frames := 0, cells := 0, slots := 0, locals := 0 }) (va_Pc [.ref (b 0)] (wH YT D k (mw b k I J G))) (QcRead (nI (G 10 0 - 2))) 0 0 (fun _ => False) := by
  refine my_entry (cc := cX6_lastWire) (maxL := 1) (ret := some .int) (by decide) rfl (Nat.le_of_ble_eq_true rfl) ?_
  intro p_ e_ s_ m_ bl_ me_ c_ hz hr hlk hB ls hl
  obtain ⟨hP, hK, hD0, -⟩ := hB
  have hD := wA.self hD0
  have hS : va_S (wA (mw b k I J G)) s_.heap s_.heap [] := va_S.rf
  have hl : lv_has ls 1 [(0, .ref (b 0))] := hl
  refine lv_aload_n hz.1 hz.2.1 dX6_lastWire_0 rfl (lv_at hl 0 rfl) ?_
  refine rg hz hinX6_lastWire hK hP 0 rfl rfl 17 (by decide) (List.mem_of_getElem? (i := 1) rfl) rfl (v := .ref (b 11)) rfl dX6_lastWire_1 ?_
  refine lv_iconst (v := nI 0) hz.1 hz.2.1 dX6_lastWire_4 (by decide) ?_
  refine rald hz hK hP 11 0 rfl rfl (i := 0) (by omega) (by decide) (v := nI (G 10 0)) rfl dX6_lastWire_5 ?_
  refine lv_iconst (v := nI 2) hz.1 hz.2.1 dX6_lastWire_6 (by decide) ?_
  refine lv_isub hz.1 hz.2.1 dX6_lastWire_7 ?_
  refine toe (z := nI ((G 10 0) - 2)) (pk_sub (by omega)) ?_
  exact rd_iret hz hr hlk dX6_lastWire_8 (rfl)

theorem hinX6_readsWire : ∀ w ∈ wsX60, w ∈ wsX6_readsWire := fun _ h => List.mem_cons_of_mem _ (List.mem_append_right _ h)
set_option maxHeartbeats 4000000 in
set_option maxRecDepth 100000 in
theorem c6_readsWire (l_ : Launch) (D : va_G) (k : Nat → ClassId) (b I J : Nat → Nat) (G : Nat → Nat → Nat) (p : Nat) (hL : I 0 ≤ 200) (hp : p ≤ I 0) (hT : ∀ j, G 9 j < 256) (hN : Wf (G 10)) : Met l_ yX6_readsWire wsX6_readsWire ({ frames := 5, cells := 0, slots := 0, locals := 112 }) (va_Pc [.ref (b 0)] (wH YT D k (mw b k (nset (nset (nset (nset I 1 p) 2 (sEd (G 9) (I 0) p - p)) 3 (sKd (G 9) (I 0) p)) 4 (sVl (G 9) (I 0) p)) J G))) (va_Qi (fun (r : Int32) (u : (Nat → Nat) × (Nat → Nat)) => r = bI (sRW (G 9) (I 0) p (G 10)).1 ∧ ((sRW (G 9) (I 0) p (G 10)).1 = true → u.1 = (sRW (G 9) (I 0) p (G 10)).2.2)) (fun (u : (Nat → Nat) × (Nat → Nat)) (t_ : State) => va_P D vwCl ((fun (u : (Nat → Nat) × (Nat → Nat)) => mw b k (nset (nset (nset (nset I 1 ((sRW (G 9) (I 0) p (G 10)).2.1)) 2 (sEd (G 9) (I 0) ((sRW (G 9) (I 0) p (G 10)).2.1) - ((sRW (G 9) (I 0) p (G 10)).2.1))) 3 (sKd (G 9) (I 0) ((sRW (G 9) (I 0) p (G 10)).2.1))) 4 (sVl (G 9) (I 0) ((sRW (G 9) (I 0) p (G 10)).2.1))) J (gset (gset G 10 u.1) 11 u.2)) u) t_.heap) (wA (mw b k (nset (nset (nset (nset I 1 p) 2 (sEd (G 9) (I 0) p - p)) 3 (sKd (G 9) (I 0) p)) 4 (sVl (G 9) (I 0) p)) J G))) 0 0 (wA (mw b k (nset (nset (nset (nset I 1 p) 2 (sEd (G 9) (I 0) p - p)) 3 (sKd (G 9) (I 0) p)) 4 (sVl (G 9) (I 0) p)) J G)) := by
  refine my_entry (cc := cX6_readsWire) (maxL := 1) (ret := some .boolean) (by decide) rfl (Nat.le_of_ble_eq_true rfl) ?_
  intro p_ e_ s_ m_ bl_ me_ c_ hz hr hlk hB ls hl
  obtain ⟨hP, hK, hD0, -⟩ := hB
  have hD := wA.self hD0
  have hS : va_S (wA (mw b k (nset (nset (nset (nset I 1 p) 2 (sEd (G 9) (I 0) p - p)) 3 (sKd (G 9) (I 0) p)) 4 (sVl (G 9) (I 0) p)) J G)) s_.heap s_.heap [] := va_S.rf
  have hl : lv_has ls 1 [(0, .ref (b 0))] := hl
  have g2 := hN.n2
  have g9 := hN.n9
  have gd := hN.gd
  have gw := hN.wc
  have gp := hN.pc
  have m1 := sNx_in (T := G 9) hp
  have m2 := sNx_in (T := G 9) m1.2.1
  have m3 := sNx_in (T := G 9) m2.2.1
  have m4 := sNx_in (T := G 9) m3.2.1
  have w1 := sVl_lt (L := I 0) (p := sNx (G 9) (I 0) p) hT
  have w2 := sVl_lt (L := I 0) (p := sNx (G 9) (I 0) (sNx (G 9) (I 0) p)) hT
  have w3 := sVl_lt (L := I 0) (p := sNx (G 9) (I 0) (sNx (G 9) (I 0) (sNx (G 9) (I 0) p))) hT
  have kd1 := sKd_le (G 9) (I 0) (sNx (G 9) (I 0) p)
  refine lv_aload_n hz.1 hz.2.1 dX6_readsWire_0 rfl (lv_at hl 0 rfl) ?_
  refine wrVv (A := wA (mw b k (nset (nset (nset (nset I 1 p) 2 (sEd (G 9) (I 0) p - p)) 3 (sKd (G 9) (I 0) p)) 4 (sVl (G 9) (I 0) p)) J G)) (As := []) (rest := []) hz okYT (c6_goOn l_ D k b I J G p  hL (by omega) hT) (cwV 0 hz.2.2.2.2 gX6_readsWire_X6_goOn rfl rfl rfl (by decide +kernel) ⟨Nat.le_of_ble_eq_true rfl, Nat.le_of_ble_eq_true rfl⟩) hK trivial hP hD hS 0 6 rfl rfl rfl rfl hl.1 rfl (Nat.le_of_ble_eq_true rfl) dX6_readsWire_1 ⟨Nat.zero_le _, Nat.zero_le _⟩ (fun u H locs hp hP hS _ => ?_)
  have hP : va_P D vwCl (mw b k (nset (nset (nset (nset I 1 (sNx (G 9) (I 0) p)) 2 (sEd (G 9) (I 0) (sNx (G 9) (I 0) p) - (sNx (G 9) (I 0) p))) 3 (sKd (G 9) (I 0) (sNx (G 9) (I 0) p))) 4 (sVl (G 9) (I 0) (sNx (G 9) (I 0) p))) J G) H := hP
  have hD := mw_D (I' := nset (nset (nset (nset I 1 (sNx (G 9) (I 0) p)) 2 (sEd (G 9) (I 0) (sNx (G 9) (I 0) p) - (sNx (G 9) (I 0) p))) 3 (sKd (G 9) (I 0) (sNx (G 9) (I 0) p))) 4 (sVl (G 9) (I 0) (sNx (G 9) (I 0) p))) (J' := J) (G' := G) hD
  refine lv_aload_n hz.1 hz.2.1 dX6_readsWire_4 rfl (lv_at hl 0 rfl) ?_
  refine lv_iconst (v := nI 0) hz.1 hz.2.1 dX6_readsWire_5 (by decide) ?_
  refine lv_iconst (v := nI 0) hz.1 hz.2.1 dX6_readsWire_6 (by decide) ?_
  refine lv_aload_n hz.1 hz.2.1 dX6_readsWire_7 rfl (lv_at hl 0 rfl) ?_
  refine rdV (A := wA (mw b k (nset (nset (nset (nset I 1 p) 2 (sEd (G 9) (I 0) p - p)) 3 (sKd (G 9) (I 0) p)) 4 (sVl (G 9) (I 0) p)) J G)) (As := []) (rest := [.int (nI 0), .int (nI 0), .ref (b 0)]) hz okYT (c6_lastWire l_ D k b (nset (nset (nset (nset I 1 (sNx (G 9) (I 0) p)) 2 (sEd (G 9) (I 0) (sNx (G 9) (I 0) p) - (sNx (G 9) (I 0) p))) 3 (sKd (G 9) (I 0) (sNx (G 9) (I 0) p))) 4 (sVl (G 9) (I 0) (sNx (G 9) (I 0) p))) J G (show 2 ≤ G 10 0 by omega)) (cwV 0 hz.2.2.2.2 gX6_readsWire_X6_lastWire rfl rfl rfl (by decide +kernel) ⟨Nat.le_of_ble_eq_true rfl, Nat.le_of_ble_eq_true rfl⟩) hK trivial hP hD hS 0 6 rfl rfl rfl rfl hl.1 rfl (Nat.le_of_ble_eq_true rfl) dX6_readsWire_8 ⟨Nat.zero_le _, Nat.zero_le _⟩ ?_
  by_cases hc_11 : sNum (G 9) (I 0) (sNx (G 9) (I 0) p) 0 (G 10 0 - 2)
  · refine wrV (A := wA (mw b k (nset (nset (nset (nset I 1 p) 2 (sEd (G 9) (I 0) p - p)) 3 (sKd (G 9) (I 0) p)) 4 (sVl (G 9) (I 0) p)) J G)) (As := [.int (nI 0), .int (nI 0), .int (nI (G 10 0 - 2))]) (rest := []) hz okYT (c6_takes_yes l_ D k b I J G (sNx (G 9) (I 0) p) 0 0 (G 10 0 - 2) hL (by omega) hT (by omega) (by omega) hc_11) (cwV 3 hz.2.2.2.2 gX6_readsWire_X6_takes rfl rfl rfl (by decide +kernel) ⟨Nat.le_of_ble_eq_true rfl, Nat.le_of_ble_eq_true rfl⟩) hK trivial hP hD hS 0 6 rfl rfl rfl rfl hl.1 rfl (Nat.le_of_ble_eq_true rfl) dX6_readsWire_11 ⟨Nat.zero_le _, Nat.zero_le _⟩ (fun r u H locs hp hP hS _ => ?_)
    obtain rfl : r = bI true := hp
    have hP : va_P D vwCl (mw b k (nset (nset (nset (nset I 1 (sNx (G 9) (I 0) (sNx (G 9) (I 0) p))) 2 (sEd (G 9) (I 0) (sNx (G 9) (I 0) (sNx (G 9) (I 0) p)) - (sNx (G 9) (I 0) (sNx (G 9) (I 0) p)))) 3 (sKd (G 9) (I 0) (sNx (G 9) (I 0) (sNx (G 9) (I 0) p)))) 4 (sVl (G 9) (I 0) (sNx (G 9) (I 0) (sNx (G 9) (I 0) p)))) J (gset G 11 (nset (G 11) 0 (sVl (G 9) (I 0) (sNx (G 9) (I 0) p))))) H := hP
    have hD := mw_D (I' := nset (nset (nset (nset I 1 (sNx (G 9) (I 0) (sNx (G 9) (I 0) p))) 2 (sEd (G 9) (I 0) (sNx (G 9) (I 0) (sNx (G 9) (I 0) p)) - (sNx (G 9) (I 0) (sNx (G 9) (I 0) p)))) 3 (sKd (G 9) (I 0) (sNx (G 9) (I 0) (sNx (G 9) (I 0) p)))) 4 (sVl (G 9) (I 0) (sNx (G 9) (I 0) (sNx (G 9) (I 0) p)))) (J' := J) (G' := gset G 11 (nset (G 11) 0 (sVl (G 9) (I 0) (sNx (G 9) (I 0) p)))) hD
    refine zeq (tgt := 38) hz dX6_readsWire_14 (by decide) (fun c_14 => ?_) (fun c_14 => ?_)
    · exact absurd c_14 (by decide)
    · refine lv_aload_n hz.1 hz.2.1 dX6_readsWire_17 rfl (lv_at hl 0 rfl) ?_
      refine lv_iconst (v := nI 1) hz.1 hz.2.1 dX6_readsWire_18 (by decide) ?_
      refine lv_iconst (v := nI 0) hz.1 hz.2.1 dX6_readsWire_19 (by decide) ?_
      refine lv_iconst (v := nI 4) hz.1 hz.2.1 dX6_readsWire_20 (by decide) ?_
      by_cases hc_21 : sNum (G 9) (I 0) (sNx (G 9) (I 0) (sNx (G 9) (I 0) p)) 0 4
      · refine wrV (A := wA (mw b k (nset (nset (nset (nset I 1 p) 2 (sEd (G 9) (I 0) p - p)) 3 (sKd (G 9) (I 0) p)) 4 (sVl (G 9) (I 0) p)) J G)) (As := [.int (nI 1), .int (nI 0), .int (nI 4)]) (rest := []) hz okYT (c6_takes_yes l_ D k b I J (gset G 11 (nset (G 11) 0 (sVl (G 9) (I 0) (sNx (G 9) (I 0) p)))) (sNx (G 9) (I 0) (sNx (G 9) (I 0) p)) 1 0 4 hL (by omega) hT (by omega) (by omega) hc_21) (cwV 3 hz.2.2.2.2 gX6_readsWire_X6_takes rfl rfl rfl (by decide +kernel) ⟨Nat.le_of_ble_eq_true rfl, Nat.le_of_ble_eq_true rfl⟩) hK trivial hP hD hS 0 6 rfl rfl rfl rfl hl.1 rfl (Nat.le_of_ble_eq_true rfl) dX6_readsWire_21 ⟨Nat.zero_le _, Nat.zero_le _⟩ (fun r u H locs hp hP hS _ => ?_)
        obtain rfl : r = bI true := hp
        have hP : va_P D vwCl (mw b k (nset (nset (nset (nset I 1 (sNx (G 9) (I 0) (sNx (G 9) (I 0) (sNx (G 9) (I 0) p)))) 2 (sEd (G 9) (I 0) (sNx (G 9) (I 0) (sNx (G 9) (I 0) (sNx (G 9) (I 0) p))) - (sNx (G 9) (I 0) (sNx (G 9) (I 0) (sNx (G 9) (I 0) p))))) 3 (sKd (G 9) (I 0) (sNx (G 9) (I 0) (sNx (G 9) (I 0) (sNx (G 9) (I 0) p))))) 4 (sVl (G 9) (I 0) (sNx (G 9) (I 0) (sNx (G 9) (I 0) (sNx (G 9) (I 0) p))))) J (gset G 11 (nset (nset (G 11) 0 (sVl (G 9) (I 0) (sNx (G 9) (I 0) p))) 1 (sVl (G 9) (I 0) (sNx (G 9) (I 0) (sNx (G 9) (I 0) p)))))) H := hP
        have hD := mw_D (I' := nset (nset (nset (nset I 1 (sNx (G 9) (I 0) (sNx (G 9) (I 0) (sNx (G 9) (I 0) p)))) 2 (sEd (G 9) (I 0) (sNx (G 9) (I 0) (sNx (G 9) (I 0) (sNx (G 9) (I 0) p))) - (sNx (G 9) (I 0) (sNx (G 9) (I 0) (sNx (G 9) (I 0) p))))) 3 (sKd (G 9) (I 0) (sNx (G 9) (I 0) (sNx (G 9) (I 0) (sNx (G 9) (I 0) p))))) 4 (sVl (G 9) (I 0) (sNx (G 9) (I 0) (sNx (G 9) (I 0) (sNx (G 9) (I 0) p))))) (J' := J) (G' := gset G 11 (nset (nset (G 11) 0 (sVl (G 9) (I 0) (sNx (G 9) (I 0) p))) 1 (sVl (G 9) (I 0) (sNx (G 9) (I 0) (sNx (G 9) (I 0) p))))) hD
        refine zeq (tgt := 38) hz dX6_readsWire_24 (by decide) (fun c_24 => ?_) (fun c_24 => ?_)
        · exact absurd c_24 (by decide)
        · refine lv_aload_n hz.1 hz.2.1 dX6_readsWire_27 rfl (lv_at hl 0 rfl) ?_
          refine lv_iconst (v := nI 2) hz.1 hz.2.1 dX6_readsWire_28 (by decide) ?_
          refine lv_iconst (v := nI 0) hz.1 hz.2.1 dX6_readsWire_29 (by decide) ?_
          refine lv_bipush (v := nI 11) hz.1 hz.2.1 dX6_readsWire_30 (by decide) ?_
          by_cases hc_32 : sNum (G 9) (I 0) (sNx (G 9) (I 0) (sNx (G 9) (I 0) (sNx (G 9) (I 0) p))) 0 11
          · refine wrV (A := wA (mw b k (nset (nset (nset (nset I 1 p) 2 (sEd (G 9) (I 0) p - p)) 3 (sKd (G 9) (I 0) p)) 4 (sVl (G 9) (I 0) p)) J G)) (As := [.int (nI 2), .int (nI 0), .int (nI 11)]) (rest := []) hz okYT (c6_takes_yes l_ D k b I J (gset G 11 (nset (nset (G 11) 0 (sVl (G 9) (I 0) (sNx (G 9) (I 0) p))) 1 (sVl (G 9) (I 0) (sNx (G 9) (I 0) (sNx (G 9) (I 0) p))))) (sNx (G 9) (I 0) (sNx (G 9) (I 0) (sNx (G 9) (I 0) p))) 2 0 11 hL (by omega) hT (by omega) (by omega) hc_32) (cwV 3 hz.2.2.2.2 gX6_readsWire_X6_takes rfl rfl rfl (by decide +kernel) ⟨Nat.le_of_ble_eq_true rfl, Nat.le_of_ble_eq_true rfl⟩) hK trivial hP hD hS 0 6 rfl rfl rfl rfl hl.1 rfl (Nat.le_of_ble_eq_true rfl) dX6_readsWire_32 ⟨Nat.zero_le _, Nat.zero_le _⟩ (fun r u H locs hp hP hS _ => ?_)
            obtain rfl : r = bI true := hp
            have hP : va_P D vwCl (mw b k (nset (nset (nset (nset I 1 (sNx (G 9) (I 0) (sNx (G 9) (I 0) (sNx (G 9) (I 0) (sNx (G 9) (I 0) p))))) 2 (sEd (G 9) (I 0) (sNx (G 9) (I 0) (sNx (G 9) (I 0) (sNx (G 9) (I 0) (sNx (G 9) (I 0) p)))) - (sNx (G 9) (I 0) (sNx (G 9) (I 0) (sNx (G 9) (I 0) (sNx (G 9) (I 0) p)))))) 3 (sKd (G 9) (I 0) (sNx (G 9) (I 0) (sNx (G 9) (I 0) (sNx (G 9) (I 0) (sNx (G 9) (I 0) p)))))) 4 (sVl (G 9) (I 0) (sNx (G 9) (I 0) (sNx (G 9) (I 0) (sNx (G 9) (I 0) (sNx (G 9) (I 0) p)))))) J (gset G 11 (nset (nset (nset (G 11) 0 (sVl (G 9) (I 0) (sNx (G 9) (I 0) p))) 1 (sVl (G 9) (I 0) (sNx (G 9) (I 0) (sNx (G 9) (I 0) p)))) 2 (sVl (G 9) (I 0) (sNx (G 9) (I 0) (sNx (G 9) (I 0) (sNx (G 9) (I 0) p))))))) H := hP
            have hD := mw_D (I' := nset (nset (nset (nset I 1 (sNx (G 9) (I 0) (sNx (G 9) (I 0) (sNx (G 9) (I 0) (sNx (G 9) (I 0) p))))) 2 (sEd (G 9) (I 0) (sNx (G 9) (I 0) (sNx (G 9) (I 0) (sNx (G 9) (I 0) (sNx (G 9) (I 0) p)))) - (sNx (G 9) (I 0) (sNx (G 9) (I 0) (sNx (G 9) (I 0) (sNx (G 9) (I 0) p)))))) 3 (sKd (G 9) (I 0) (sNx (G 9) (I 0) (sNx (G 9) (I 0) (sNx (G 9) (I 0) (sNx (G 9) (I 0) p)))))) 4 (sVl (G 9) (I 0) (sNx (G 9) (I 0) (sNx (G 9) (I 0) (sNx (G 9) (I 0) (sNx (G 9) (I 0) p)))))) (J' := J) (G' := gset G 11 (nset (nset (nset (G 11) 0 (sVl (G 9) (I 0) (sNx (G 9) (I 0) p))) 1 (sVl (G 9) (I 0) (sNx (G 9) (I 0) (sNx (G 9) (I 0) p)))) 2 (sVl (G 9) (I 0) (sNx (G 9) (I 0) (sNx (G 9) (I 0) (sNx (G 9) (I 0) p)))))) hD
            refine zne (tgt := 40) hz dX6_readsWire_35 (by decide) (fun c_35 => ?_) (fun c_35 => ?_)
            · refine lv_aload_n hz.1 hz.2.1 dX6_readsWire_40 rfl (lv_at hl 0 rfl) ?_
              refine rg hz hinX6_readsWire hK hP 0 rfl rfl 17 (by decide) (List.mem_of_getElem? (i := 1) rfl) rfl (v := .ref (b 11)) rfl dX6_readsWire_41 ?_
              refine lv_iconst (v := nI 3) hz.1 hz.2.1 dX6_readsWire_44 (by decide) ?_
              refine lv_aload_n hz.1 hz.2.1 dX6_readsWire_45 rfl (lv_at hl 0 rfl) ?_
              refine rg hz hinX6_readsWire hK hP 0 rfl rfl 18 (by decide) (List.mem_of_getElem? (i := 2) rfl) rfl (v := .ref (b 12)) rfl dX6_readsWire_46 ?_
              refine lv_iconst (v := nI 0) hz.1 hz.2.1 dX6_readsWire_49 (by decide) ?_
              refine rald hz hK hP 12 0 rfl rfl (i := 0) (by omega) (by decide) (v := nI ((nset (nset (nset (G 11) 0 (sVl (G 9) (I 0) (sNx (G 9) (I 0) p))) 1 (sVl (G 9) (I 0) (sNx (G 9) (I 0) (sNx (G 9) (I 0) p)))) 2 (sVl (G 9) (I 0) (sNx (G 9) (I 0) (sNx (G 9) (I 0) (sNx (G 9) (I 0) p))))) 0)) rfl dX6_readsWire_50 ?_
              refine toe (z := nI (sVl (G 9) (I 0) (sNx (G 9) (I 0) p))) (rfl) ?_
              refine lv_iadd hz.1 hz.2.1 dX6_readsWire_51 ?_
              refine toe (z := nI (3 + (sVl (G 9) (I 0) (sNx (G 9) (I 0) p)))) (nI_add _ _) ?_
              refine lv_aload_n hz.1 hz.2.1 dX6_readsWire_52 rfl (lv_at hl 0 rfl) ?_
              refine rg hz hinX6_readsWire hK hP 0 rfl rfl 18 (by decide) (List.mem_of_getElem? (i := 2) rfl) rfl (v := .ref (b 12)) rfl dX6_readsWire_53 ?_
              refine lv_iconst (v := nI 1) hz.1 hz.2.1 dX6_readsWire_56 (by decide) ?_
              refine rald hz hK hP 12 0 rfl rfl (i := 1) (by omega) (by decide) (v := nI ((nset (nset (nset (G 11) 0 (sVl (G 9) (I 0) (sNx (G 9) (I 0) p))) 1 (sVl (G 9) (I 0) (sNx (G 9) (I 0) (sNx (G 9) (I 0) p)))) 2 (sVl (G 9) (I 0) (sNx (G 9) (I 0) (sNx (G 9) (I 0) (sNx (G 9) (I 0) p))))) 1)) rfl dX6_readsWire_57 ?_
              refine toe (z := nI (sVl (G 9) (I 0) (sNx (G 9) (I 0) (sNx (G 9) (I 0) p)))) (rfl) ?_
              refine rast hz hK hP hD hS 11 0 rfl rfl (i := (3 + (sVl (G 9) (I 0) (sNx (G 9) (I 0) p)))) (v := (sVl (G 9) (I 0) (sNx (G 9) (I 0) (sNx (G 9) (I 0) p)))) (by omega) (by decide) dX6_readsWire_58 (fun H locs hP hS => ?_)
              have hP : va_P D vwCl (mw b k (nset (nset (nset (nset I 1 (sNx (G 9) (I 0) (sNx (G 9) (I 0) (sNx (G 9) (I 0) (sNx (G 9) (I 0) p))))) 2 (sEd (G 9) (I 0) (sNx (G 9) (I 0) (sNx (G 9) (I 0) (sNx (G 9) (I 0) (sNx (G 9) (I 0) p)))) - (sNx (G 9) (I 0) (sNx (G 9) (I 0) (sNx (G 9) (I 0) (sNx (G 9) (I 0) p)))))) 3 (sKd (G 9) (I 0) (sNx (G 9) (I 0) (sNx (G 9) (I 0) (sNx (G 9) (I 0) (sNx (G 9) (I 0) p)))))) 4 (sVl (G 9) (I 0) (sNx (G 9) (I 0) (sNx (G 9) (I 0) (sNx (G 9) (I 0) (sNx (G 9) (I 0) p)))))) J (gset (gset G 10 (nset (G 10) (3 + (sVl (G 9) (I 0) (sNx (G 9) (I 0) p))) (sVl (G 9) (I 0) (sNx (G 9) (I 0) (sNx (G 9) (I 0) p))))) 11 (nset (nset (nset (G 11) 0 (sVl (G 9) (I 0) (sNx (G 9) (I 0) p))) 1 (sVl (G 9) (I 0) (sNx (G 9) (I 0) (sNx (G 9) (I 0) p)))) 2 (sVl (G 9) (I 0) (sNx (G 9) (I 0) (sNx (G 9) (I 0) (sNx (G 9) (I 0) p))))))) H := hP
              have hD := mw_D (I' := nset (nset (nset (nset I 1 (sNx (G 9) (I 0) (sNx (G 9) (I 0) (sNx (G 9) (I 0) (sNx (G 9) (I 0) p))))) 2 (sEd (G 9) (I 0) (sNx (G 9) (I 0) (sNx (G 9) (I 0) (sNx (G 9) (I 0) (sNx (G 9) (I 0) p)))) - (sNx (G 9) (I 0) (sNx (G 9) (I 0) (sNx (G 9) (I 0) (sNx (G 9) (I 0) p)))))) 3 (sKd (G 9) (I 0) (sNx (G 9) (I 0) (sNx (G 9) (I 0) (sNx (G 9) (I 0) (sNx (G 9) (I 0) p)))))) 4 (sVl (G 9) (I 0) (sNx (G 9) (I 0) (sNx (G 9) (I 0) (sNx (G 9) (I 0) (sNx (G 9) (I 0) p)))))) (J' := J) (G' := gset (gset G 10 (nset (G 10) (3 + (sVl (G 9) (I 0) (sNx (G 9) (I 0) p))) (sVl (G 9) (I 0) (sNx (G 9) (I 0) (sNx (G 9) (I 0) p))))) 11 (nset (nset (nset (G 11) 0 (sVl (G 9) (I 0) (sNx (G 9) (I 0) p))) 1 (sVl (G 9) (I 0) (sNx (G 9) (I 0) (sNx (G 9) (I 0) p)))) 2 (sVl (G 9) (I 0) (sNx (G 9) (I 0) (sNx (G 9) (I 0) (sNx (G 9) (I 0) p)))))) hD
              refine lv_aload_n hz.1 hz.2.1 dX6_readsWire_59 rfl (lv_at hl 0 rfl) ?_
              refine rg hz hinX6_readsWire hK hP 0 rfl rfl 17 (by decide) (List.mem_of_getElem? (i := 1) rfl) rfl (v := .ref (b 11)) rfl dX6_readsWire_60 ?_
              refine lv_bipush (v := nI 11) hz.1 hz.2.1 dX6_readsWire_63 (by decide) ?_
              refine lv_aload_n hz.1 hz.2.1 dX6_readsWire_65 rfl (lv_at hl 0 rfl) ?_
              refine rg hz hinX6_readsWire hK hP 0 rfl rfl 18 (by decide) (List.mem_of_getElem? (i := 2) rfl) rfl (v := .ref (b 12)) rfl dX6_readsWire_66 ?_
              refine lv_iconst (v := nI 0) hz.1 hz.2.1 dX6_readsWire_69 (by decide) ?_
              refine rald hz hK hP 12 0 rfl rfl (i := 0) (by omega) (by decide) (v := nI ((nset (nset (nset (G 11) 0 (sVl (G 9) (I 0) (sNx (G 9) (I 0) p))) 1 (sVl (G 9) (I 0) (sNx (G 9) (I 0) (sNx (G 9) (I 0) p)))) 2 (sVl (G 9) (I 0) (sNx (G 9) (I 0) (sNx (G 9) (I 0) (sNx (G 9) (I 0) p))))) 0)) rfl dX6_readsWire_70 ?_
              refine toe (z := nI (sVl (G 9) (I 0) (sNx (G 9) (I 0) p))) (rfl) ?_
              refine lv_iadd hz.1 hz.2.1 dX6_readsWire_71 ?_
              refine toe (z := nI (11 + (sVl (G 9) (I 0) (sNx (G 9) (I 0) p)))) (nI_add _ _) ?_
              refine lv_aload_n hz.1 hz.2.1 dX6_readsWire_72 rfl (lv_at hl 0 rfl) ?_
              refine rg hz hinX6_readsWire hK hP 0 rfl rfl 18 (by decide) (List.mem_of_getElem? (i := 2) rfl) rfl (v := .ref (b 12)) rfl dX6_readsWire_73 ?_
              refine lv_iconst (v := nI 2) hz.1 hz.2.1 dX6_readsWire_76 (by decide) ?_
              refine rald hz hK hP 12 0 rfl rfl (i := 2) (by omega) (by decide) (v := nI ((nset (nset (nset (G 11) 0 (sVl (G 9) (I 0) (sNx (G 9) (I 0) p))) 1 (sVl (G 9) (I 0) (sNx (G 9) (I 0) (sNx (G 9) (I 0) p)))) 2 (sVl (G 9) (I 0) (sNx (G 9) (I 0) (sNx (G 9) (I 0) (sNx (G 9) (I 0) p))))) 2)) rfl dX6_readsWire_77 ?_
              refine toe (z := nI (sVl (G 9) (I 0) (sNx (G 9) (I 0) (sNx (G 9) (I 0) (sNx (G 9) (I 0) p))))) (rfl) ?_
              refine rast hz hK hP hD hS 11 0 rfl rfl (i := (11 + (sVl (G 9) (I 0) (sNx (G 9) (I 0) p)))) (v := (sVl (G 9) (I 0) (sNx (G 9) (I 0) (sNx (G 9) (I 0) (sNx (G 9) (I 0) p))))) (by omega) (by decide) dX6_readsWire_78 (fun H locs hP hS => ?_)
              have hP : va_P D vwCl (mw b k (nset (nset (nset (nset I 1 (sNx (G 9) (I 0) (sNx (G 9) (I 0) (sNx (G 9) (I 0) (sNx (G 9) (I 0) p))))) 2 (sEd (G 9) (I 0) (sNx (G 9) (I 0) (sNx (G 9) (I 0) (sNx (G 9) (I 0) (sNx (G 9) (I 0) p)))) - (sNx (G 9) (I 0) (sNx (G 9) (I 0) (sNx (G 9) (I 0) (sNx (G 9) (I 0) p)))))) 3 (sKd (G 9) (I 0) (sNx (G 9) (I 0) (sNx (G 9) (I 0) (sNx (G 9) (I 0) (sNx (G 9) (I 0) p)))))) 4 (sVl (G 9) (I 0) (sNx (G 9) (I 0) (sNx (G 9) (I 0) (sNx (G 9) (I 0) (sNx (G 9) (I 0) p)))))) J (gset (gset G 10 (nset (nset (G 10) (3 + (sVl (G 9) (I 0) (sNx (G 9) (I 0) p))) (sVl (G 9) (I 0) (sNx (G 9) (I 0) (sNx (G 9) (I 0) p)))) (11 + (sVl (G 9) (I 0) (sNx (G 9) (I 0) p))) (sVl (G 9) (I 0) (sNx (G 9) (I 0) (sNx (G 9) (I 0) (sNx (G 9) (I 0) p)))))) 11 (nset (nset (nset (G 11) 0 (sVl (G 9) (I 0) (sNx (G 9) (I 0) p))) 1 (sVl (G 9) (I 0) (sNx (G 9) (I 0) (sNx (G 9) (I 0) p)))) 2 (sVl (G 9) (I 0) (sNx (G 9) (I 0) (sNx (G 9) (I 0) (sNx (G 9) (I 0) p))))))) H := hP
              have hD := mw_D (I' := nset (nset (nset (nset I 1 (sNx (G 9) (I 0) (sNx (G 9) (I 0) (sNx (G 9) (I 0) (sNx (G 9) (I 0) p))))) 2 (sEd (G 9) (I 0) (sNx (G 9) (I 0) (sNx (G 9) (I 0) (sNx (G 9) (I 0) (sNx (G 9) (I 0) p)))) - (sNx (G 9) (I 0) (sNx (G 9) (I 0) (sNx (G 9) (I 0) (sNx (G 9) (I 0) p)))))) 3 (sKd (G 9) (I 0) (sNx (G 9) (I 0) (sNx (G 9) (I 0) (sNx (G 9) (I 0) (sNx (G 9) (I 0) p)))))) 4 (sVl (G 9) (I 0) (sNx (G 9) (I 0) (sNx (G 9) (I 0) (sNx (G 9) (I 0) (sNx (G 9) (I 0) p)))))) (J' := J) (G' := gset (gset G 10 (nset (nset (G 10) (3 + (sVl (G 9) (I 0) (sNx (G 9) (I 0) p))) (sVl (G 9) (I 0) (sNx (G 9) (I 0) (sNx (G 9) (I 0) p)))) (11 + (sVl (G 9) (I 0) (sNx (G 9) (I 0) p))) (sVl (G 9) (I 0) (sNx (G 9) (I 0) (sNx (G 9) (I 0) (sNx (G 9) (I 0) p)))))) 11 (nset (nset (nset (G 11) 0 (sVl (G 9) (I 0) (sNx (G 9) (I 0) p))) 1 (sVl (G 9) (I 0) (sNx (G 9) (I 0) (sNx (G 9) (I 0) p)))) 2 (sVl (G 9) (I 0) (sNx (G 9) (I 0) (sNx (G 9) (I 0) (sNx (G 9) (I 0) p)))))) hD
              refine lv_iconst (v := nI 1) hz.1 hz.2.1 dX6_readsWire_79 (by decide) ?_
              have eR : sRW (G 9) (I 0) p (G 10) = (true, sNx (G 9) (I 0) (sNx (G 9) (I 0) (sNx (G 9) (I 0) (sNx (G 9) (I 0) p))), sWire (G 10) (sVl (G 9) (I 0) (sNx (G 9) (I 0) p)) (sVl (G 9) (I 0) (sNx (G 9) (I 0) (sNx (G 9) (I 0) p))) (sVl (G 9) (I 0) (sNx (G 9) (I 0) (sNx (G 9) (I 0) (sNx (G 9) (I 0) p))))) := by rw [sRW, if_pos hc_11, if_pos hc_21, if_pos hc_32]
              have hP : va_P D vwCl (mw b k (nset (nset (nset (nset I 1 ((sRW (G 9) (I 0) p (G 10)).2.1)) 2 (sEd (G 9) (I 0) ((sRW (G 9) (I 0) p (G 10)).2.1) - ((sRW (G 9) (I 0) p (G 10)).2.1))) 3 (sKd (G 9) (I 0) ((sRW (G 9) (I 0) p (G 10)).2.1))) 4 (sVl (G 9) (I 0) ((sRW (G 9) (I 0) p (G 10)).2.1))) J (gset (gset G 10 (nset (nset (G 10) (3 + (sVl (G 9) (I 0) (sNx (G 9) (I 0) p))) (sVl (G 9) (I 0) (sNx (G 9) (I 0) (sNx (G 9) (I 0) p)))) (11 + (sVl (G 9) (I 0) (sNx (G 9) (I 0) p))) (sVl (G 9) (I 0) (sNx (G 9) (I 0) (sNx (G 9) (I 0) (sNx (G 9) (I 0) p)))))) 11 (nset (nset (nset (G 11) 0 (sVl (G 9) (I 0) (sNx (G 9) (I 0) p))) 1 (sVl (G 9) (I 0) (sNx (G 9) (I 0) (sNx (G 9) (I 0) p)))) 2 (sVl (G 9) (I 0) (sNx (G 9) (I 0) (sNx (G 9) (I 0) (sNx (G 9) (I 0) p))))))) H := by rw [eR]; exact hP
              exact wr_zret hz hr hlk dX6_readsWire_80 hS (show nI 1 = bI true from rfl) ((nset (nset (G 10) (3 + (sVl (G 9) (I 0) (sNx (G 9) (I 0) p))) (sVl (G 9) (I 0) (sNx (G 9) (I 0) (sNx (G 9) (I 0) p)))) (11 + (sVl (G 9) (I 0) (sNx (G 9) (I 0) p))) (sVl (G 9) (I 0) (sNx (G 9) (I 0) (sNx (G 9) (I 0) (sNx (G 9) (I 0) p)))), nset (nset (nset (G 11) 0 (sVl (G 9) (I 0) (sNx (G 9) (I 0) p))) 1 (sVl (G 9) (I 0) (sNx (G 9) (I 0) (sNx (G 9) (I 0) p)))) 2 (sVl (G 9) (I 0) (sNx (G 9) (I 0) (sNx (G 9) (I 0) (sNx (G 9) (I 0) p)))))) hP (⟨by rw [eR], fun _ => by first | (rw [eR]; done) | (rw [eR]; rfl)⟩)
            · exact absurd c_35 (by decide)
          · refine rdV (A := wA (mw b k (nset (nset (nset (nset I 1 p) 2 (sEd (G 9) (I 0) p - p)) 3 (sKd (G 9) (I 0) p)) 4 (sVl (G 9) (I 0) p)) J G)) (As := [.int (nI 2), .int (nI 0), .int (nI 11)]) (rest := []) hz okYT (c6_takes_no l_ D k b I J (gset G 11 (nset (nset (G 11) 0 (sVl (G 9) (I 0) (sNx (G 9) (I 0) p))) 1 (sVl (G 9) (I 0) (sNx (G 9) (I 0) (sNx (G 9) (I 0) p))))) (sNx (G 9) (I 0) (sNx (G 9) (I 0) (sNx (G 9) (I 0) p))) 2 0 11 hL (by omega) hT (by omega) (by omega) (by omega) hc_32) (cwV 3 hz.2.2.2.2 gX6_readsWire_X6_takes rfl rfl rfl (by decide +kernel) ⟨Nat.le_of_ble_eq_true rfl, Nat.le_of_ble_eq_true rfl⟩) hK trivial hP hD hS 0 6 rfl rfl rfl rfl hl.1 rfl (Nat.le_of_ble_eq_true rfl) dX6_readsWire_32 ⟨Nat.zero_le _, Nat.zero_le _⟩ ?_
            refine zne (tgt := 40) hz dX6_readsWire_35 (by decide) (fun c_35 => ?_) (fun c_35 => ?_)
            · exact absurd c_35 (by decide)
            · refine lv_iconst (v := nI 0) hz.1 hz.2.1 dX6_readsWire_38 (by decide) ?_
              have eR : sRW (G 9) (I 0) p (G 10) = (false, sNx (G 9) (I 0) (sNx (G 9) (I 0) (sNx (G 9) (I 0) p)), G 10) := by rw [sRW, if_pos hc_11, if_pos hc_21, if_neg hc_32]
              have hP : va_P D vwCl (mw b k (nset (nset (nset (nset I 1 ((sRW (G 9) (I 0) p (G 10)).2.1)) 2 (sEd (G 9) (I 0) ((sRW (G 9) (I 0) p (G 10)).2.1) - ((sRW (G 9) (I 0) p (G 10)).2.1))) 3 (sKd (G 9) (I 0) ((sRW (G 9) (I 0) p (G 10)).2.1))) 4 (sVl (G 9) (I 0) ((sRW (G 9) (I 0) p (G 10)).2.1))) J (gset (gset G 10 (G 10)) 11 (nset (nset (G 11) 0 (sVl (G 9) (I 0) (sNx (G 9) (I 0) p))) 1 (sVl (G 9) (I 0) (sNx (G 9) (I 0) (sNx (G 9) (I 0) p)))))) H := by rw [eR]; exact hP
              exact wr_zret hz hr hlk dX6_readsWire_39 hS (show nI 0 = bI false from rfl) ((G 10, nset (nset (G 11) 0 (sVl (G 9) (I 0) (sNx (G 9) (I 0) p))) 1 (sVl (G 9) (I 0) (sNx (G 9) (I 0) (sNx (G 9) (I 0) p))))) hP (⟨by rw [eR], fun q => by rw [eR] at q; cases q⟩)
      · refine rdV (A := wA (mw b k (nset (nset (nset (nset I 1 p) 2 (sEd (G 9) (I 0) p - p)) 3 (sKd (G 9) (I 0) p)) 4 (sVl (G 9) (I 0) p)) J G)) (As := [.int (nI 1), .int (nI 0), .int (nI 4)]) (rest := []) hz okYT (c6_takes_no l_ D k b I J (gset G 11 (nset (G 11) 0 (sVl (G 9) (I 0) (sNx (G 9) (I 0) p)))) (sNx (G 9) (I 0) (sNx (G 9) (I 0) p)) 1 0 4 hL (by omega) hT (by omega) (by omega) (by omega) hc_21) (cwV 3 hz.2.2.2.2 gX6_readsWire_X6_takes rfl rfl rfl (by decide +kernel) ⟨Nat.le_of_ble_eq_true rfl, Nat.le_of_ble_eq_true rfl⟩) hK trivial hP hD hS 0 6 rfl rfl rfl rfl hl.1 rfl (Nat.le_of_ble_eq_true rfl) dX6_readsWire_21 ⟨Nat.zero_le _, Nat.zero_le _⟩ ?_
        refine zeq (tgt := 38) hz dX6_readsWire_24 (by decide) (fun c_24 => ?_) (fun c_24 => ?_)
        · refine lv_iconst (v := nI 0) hz.1 hz.2.1 dX6_readsWire_38 (by decide) ?_
          have eR : sRW (G 9) (I 0) p (G 10) = (false, sNx (G 9) (I 0) (sNx (G 9) (I 0) p), G 10) := by rw [sRW, if_pos hc_11, if_neg hc_21]
          have hP : va_P D vwCl (mw b k (nset (nset (nset (nset I 1 ((sRW (G 9) (I 0) p (G 10)).2.1)) 2 (sEd (G 9) (I 0) ((sRW (G 9) (I 0) p (G 10)).2.1) - ((sRW (G 9) (I 0) p (G 10)).2.1))) 3 (sKd (G 9) (I 0) ((sRW (G 9) (I 0) p (G 10)).2.1))) 4 (sVl (G 9) (I 0) ((sRW (G 9) (I 0) p (G 10)).2.1))) J (gset (gset G 10 (G 10)) 11 (nset (G 11) 0 (sVl (G 9) (I 0) (sNx (G 9) (I 0) p))))) H := by rw [eR]; exact hP
          exact wr_zret hz hr hlk dX6_readsWire_39 hS (show nI 0 = bI false from rfl) ((G 10, nset (G 11) 0 (sVl (G 9) (I 0) (sNx (G 9) (I 0) p)))) hP (⟨by rw [eR], fun q => by rw [eR] at q; cases q⟩)
        · exact absurd c_24 (by decide)
  · refine rdV (A := wA (mw b k (nset (nset (nset (nset I 1 p) 2 (sEd (G 9) (I 0) p - p)) 3 (sKd (G 9) (I 0) p)) 4 (sVl (G 9) (I 0) p)) J G)) (As := [.int (nI 0), .int (nI 0), .int (nI (G 10 0 - 2))]) (rest := []) hz okYT (c6_takes_no l_ D k b I J G (sNx (G 9) (I 0) p) 0 0 (G 10 0 - 2) hL (by omega) hT (by omega) (by omega) (by omega) hc_11) (cwV 3 hz.2.2.2.2 gX6_readsWire_X6_takes rfl rfl rfl (by decide +kernel) ⟨Nat.le_of_ble_eq_true rfl, Nat.le_of_ble_eq_true rfl⟩) hK trivial hP hD hS 0 6 rfl rfl rfl rfl hl.1 rfl (Nat.le_of_ble_eq_true rfl) dX6_readsWire_11 ⟨Nat.zero_le _, Nat.zero_le _⟩ ?_
    refine zeq (tgt := 38) hz dX6_readsWire_14 (by decide) (fun c_14 => ?_) (fun c_14 => ?_)
    · refine lv_iconst (v := nI 0) hz.1 hz.2.1 dX6_readsWire_38 (by decide) ?_
      have eR : sRW (G 9) (I 0) p (G 10) = (false, sNx (G 9) (I 0) p, G 10) := by rw [sRW, if_neg hc_11]
      have hP : va_P D vwCl (mw b k (nset (nset (nset (nset I 1 ((sRW (G 9) (I 0) p (G 10)).2.1)) 2 (sEd (G 9) (I 0) ((sRW (G 9) (I 0) p (G 10)).2.1) - ((sRW (G 9) (I 0) p (G 10)).2.1))) 3 (sKd (G 9) (I 0) ((sRW (G 9) (I 0) p (G 10)).2.1))) 4 (sVl (G 9) (I 0) ((sRW (G 9) (I 0) p (G 10)).2.1))) J (gset (gset G 10 (G 10)) 11 (G 11))) H := by rw [eR]; exact hP
      exact wr_zret hz hr hlk dX6_readsWire_39 hS (show nI 0 = bI false from rfl) ((G 10, G 11)) hP (⟨by rw [eR], fun q => by rw [eR] at q; cases q⟩)
    · exact absurd c_14 (by decide)

theorem hinX6_readsGuard : ∀ w ∈ wsX60, w ∈ wsX6_readsGuard := fun _ h => List.mem_cons_of_mem _ (List.mem_append_right _ h)
set_option maxHeartbeats 4000000 in
set_option maxRecDepth 100000 in
theorem c6_readsGuard (l_ : Launch) (D : va_G) (k : Nat → ClassId) (b I J : Nat → Nat) (G : Nat → Nat → Nat) (p : Nat) (hL : I 0 ≤ 200) (hp : p ≤ I 0) (hT : ∀ j, G 9 j < 256) (hN : Wf (G 10)) : Met l_ yX6_readsGuard wsX6_readsGuard ({ frames := 4, cells := 0, slots := 0, locals := 89 }) (va_Pc [.ref (b 0)] (wH YT D k (mw b k (nset (nset (nset (nset I 1 p) 2 (sEd (G 9) (I 0) p - p)) 3 (sKd (G 9) (I 0) p)) 4 (sVl (G 9) (I 0) p)) J G))) (va_Qi (fun (r : Int32) (u : (Nat → Nat) × (Nat → Nat)) => r = bI (sRG (G 9) (I 0) p (G 10)).1 ∧ ((sRG (G 9) (I 0) p (G 10)).1 = true → u.1 = (sRG (G 9) (I 0) p (G 10)).2.2)) (fun (u : (Nat → Nat) × (Nat → Nat)) (t_ : State) => va_P D vwCl ((fun (u : (Nat → Nat) × (Nat → Nat)) => mw b k (nset (nset (nset (nset I 1 ((sRG (G 9) (I 0) p (G 10)).2.1)) 2 (sEd (G 9) (I 0) ((sRG (G 9) (I 0) p (G 10)).2.1) - ((sRG (G 9) (I 0) p (G 10)).2.1))) 3 (sKd (G 9) (I 0) ((sRG (G 9) (I 0) p (G 10)).2.1))) 4 (sVl (G 9) (I 0) ((sRG (G 9) (I 0) p (G 10)).2.1))) J (gset (gset G 10 u.1) 11 u.2)) u) t_.heap) (wA (mw b k (nset (nset (nset (nset I 1 p) 2 (sEd (G 9) (I 0) p - p)) 3 (sKd (G 9) (I 0) p)) 4 (sVl (G 9) (I 0) p)) J G))) 0 0 (wA (mw b k (nset (nset (nset (nset I 1 p) 2 (sEd (G 9) (I 0) p - p)) 3 (sKd (G 9) (I 0) p)) 4 (sVl (G 9) (I 0) p)) J G)) := by
  refine my_entry (cc := cX6_readsGuard) (maxL := 1) (ret := some .boolean) (by decide) rfl (Nat.le_of_ble_eq_true rfl) ?_
  intro p_ e_ s_ m_ bl_ me_ c_ hz hr hlk hB ls hl
  obtain ⟨hP, hK, hD0, -⟩ := hB
  have hD := wA.self hD0
  have hS : va_S (wA (mw b k (nset (nset (nset (nset I 1 p) 2 (sEd (G 9) (I 0) p - p)) 3 (sKd (G 9) (I 0) p)) 4 (sVl (G 9) (I 0) p)) J G)) s_.heap s_.heap [] := va_S.rf
  have hl : lv_has ls 1 [(0, .ref (b 0))] := hl
  have g2 := hN.n2
  have g9 := hN.n9
  have gd := hN.gd
  have gw := hN.wc
  have gp := hN.pc
  have m1 := sNx_in (T := G 9) hp
  have m2 := sNx_in (T := G 9) m1.2.1
  have m3 := sNx_in (T := G 9) m2.2.1
  have m4 := sNx_in (T := G 9) m3.2.1
  have w1 := sVl_lt (L := I 0) (p := sNx (G 9) (I 0) p) hT
  have w2 := sVl_lt (L := I 0) (p := sNx (G 9) (I 0) (sNx (G 9) (I 0) p)) hT
  have w3 := sVl_lt (L := I 0) (p := sNx (G 9) (I 0) (sNx (G 9) (I 0) (sNx (G 9) (I 0) p))) hT
  have kd1 := sKd_le (G 9) (I 0) (sNx (G 9) (I 0) p)
  refine lv_aload_n hz.1 hz.2.1 dX6_readsGuard_0 rfl (lv_at hl 0 rfl) ?_
  refine wrVv (A := wA (mw b k (nset (nset (nset (nset I 1 p) 2 (sEd (G 9) (I 0) p - p)) 3 (sKd (G 9) (I 0) p)) 4 (sVl (G 9) (I 0) p)) J G)) (As := []) (rest := []) hz okYT (c6_goOn l_ D k b I J G p  hL (by omega) hT) (cwV 0 hz.2.2.2.2 gX6_readsGuard_X6_goOn rfl rfl rfl (by decide +kernel) ⟨Nat.le_of_ble_eq_true rfl, Nat.le_of_ble_eq_true rfl⟩) hK trivial hP hD hS 0 6 rfl rfl rfl rfl hl.1 rfl (Nat.le_of_ble_eq_true rfl) dX6_readsGuard_1 ⟨Nat.zero_le _, Nat.zero_le _⟩ (fun u H locs hp hP hS _ => ?_)
  have hP : va_P D vwCl (mw b k (nset (nset (nset (nset I 1 (sNx (G 9) (I 0) p)) 2 (sEd (G 9) (I 0) (sNx (G 9) (I 0) p) - (sNx (G 9) (I 0) p))) 3 (sKd (G 9) (I 0) (sNx (G 9) (I 0) p))) 4 (sVl (G 9) (I 0) (sNx (G 9) (I 0) p))) J G) H := hP
  have hD := mw_D (I' := nset (nset (nset (nset I 1 (sNx (G 9) (I 0) p)) 2 (sEd (G 9) (I 0) (sNx (G 9) (I 0) p) - (sNx (G 9) (I 0) p))) 3 (sKd (G 9) (I 0) (sNx (G 9) (I 0) p))) 4 (sVl (G 9) (I 0) (sNx (G 9) (I 0) p))) (J' := J) (G' := G) hD
  refine lv_aload_n hz.1 hz.2.1 dX6_readsGuard_4 rfl (lv_at hl 0 rfl) ?_
  refine rg hz hinX6_readsGuard hK hP 0 rfl rfl 15 (by decide) (List.mem_of_getElem? (i := 1) rfl) rfl (v := .int (nI (sKd (G 9) (I 0) (sNx (G 9) (I 0) p)))) rfl dX6_readsGuard_5 ?_
  refine lv_iconst (v := nI 2) hz.1 hz.2.1 dX6_readsGuard_8 (by decide) ?_
  refine jne (tgt := 42) hz dX6_readsGuard_9 (by decide) (by omega) (by omega) (fun c_9 => ?_) (fun c_9 => ?_)
  · refine lv_iconst (v := nI 0) hz.1 hz.2.1 dX6_readsGuard_42 (by decide) ?_
    have eR : sRG (G 9) (I 0) p (G 10) = (false, sNx (G 9) (I 0) p, G 10) := by rw [sRG, if_neg (fun q => c_9 q.1)]
    have hP : va_P D vwCl (mw b k (nset (nset (nset (nset I 1 ((sRG (G 9) (I 0) p (G 10)).2.1)) 2 (sEd (G 9) (I 0) ((sRG (G 9) (I 0) p (G 10)).2.1) - ((sRG (G 9) (I 0) p (G 10)).2.1))) 3 (sKd (G 9) (I 0) ((sRG (G 9) (I 0) p (G 10)).2.1))) 4 (sVl (G 9) (I 0) ((sRG (G 9) (I 0) p (G 10)).2.1))) J (gset (gset G 10 (G 10)) 11 (G 11))) H := by rw [eR]; exact hP
    exact wr_zret hz hr hlk dX6_readsGuard_43 hS (show nI 0 = bI false from rfl) ((G 10, G 11)) hP (⟨by rw [eR], fun q => by rw [eR] at q; cases q⟩)
  · have hv1 := w1
    refine lv_aload_n hz.1 hz.2.1 dX6_readsGuard_12 rfl (lv_at hl 0 rfl) ?_
    refine rg hz hinX6_readsGuard hK hP 0 rfl rfl 16 (by decide) (List.mem_of_getElem? (i := 2) rfl) rfl (v := .int (nI (sVl (G 9) (I 0) (sNx (G 9) (I 0) p)))) rfl dX6_readsGuard_13 ?_
    refine lv_aload_n hz.1 hz.2.1 dX6_readsGuard_16 rfl (lv_at hl 0 rfl) ?_
    refine rg hz hinX6_readsGuard hK hP 0 rfl rfl 17 (by decide) (List.mem_of_getElem? (i := 3) rfl) rfl (v := .ref (b 11)) rfl dX6_readsGuard_17 ?_
    refine lv_iconst (v := nI 0) hz.1 hz.2.1 dX6_readsGuard_20 (by decide) ?_
    refine rald hz hK hP 11 0 rfl rfl (i := 0) (by omega) (by decide) (v := nI (G 10 0)) rfl dX6_readsGuard_21 ?_
    refine jge (tgt := 42) hz dX6_readsGuard_22 (by decide) (by omega) (by omega) (fun c_22 => ?_) (fun c_22 => ?_)
    · refine lv_iconst (v := nI 0) hz.1 hz.2.1 dX6_readsGuard_42 (by decide) ?_
      have eR : sRG (G 9) (I 0) p (G 10) = (false, sNx (G 9) (I 0) p, G 10) := by rw [sRG, if_neg (fun q => c_22 q.2.1)]
      have hP : va_P D vwCl (mw b k (nset (nset (nset (nset I 1 ((sRG (G 9) (I 0) p (G 10)).2.1)) 2 (sEd (G 9) (I 0) ((sRG (G 9) (I 0) p (G 10)).2.1) - ((sRG (G 9) (I 0) p (G 10)).2.1))) 3 (sKd (G 9) (I 0) ((sRG (G 9) (I 0) p (G 10)).2.1))) 4 (sVl (G 9) (I 0) ((sRG (G 9) (I 0) p (G 10)).2.1))) J (gset (gset G 10 (G 10)) 11 (G 11))) H := by rw [eR]; exact hP
      exact wr_zret hz hr hlk dX6_readsGuard_43 hS (show nI 0 = bI false from rfl) ((G 10, G 11)) hP (⟨by rw [eR], fun q => by rw [eR] at q; cases q⟩)
    · refine lv_aload_n hz.1 hz.2.1 dX6_readsGuard_25 rfl (lv_at hl 0 rfl) ?_
      refine rg hz hinX6_readsGuard hK hP 0 rfl rfl 17 (by decide) (List.mem_of_getElem? (i := 3) rfl) rfl (v := .ref (b 11)) rfl dX6_readsGuard_26 ?_
      refine lv_iconst (v := nI 2) hz.1 hz.2.1 dX6_readsGuard_29 (by decide) ?_
      refine rald hz hK hP 11 0 rfl rfl (i := 2) (by omega) (by decide) (v := nI (G 10 2)) rfl dX6_readsGuard_30 ?_
      refine lv_aload_n hz.1 hz.2.1 dX6_readsGuard_31 rfl (lv_at hl 0 rfl) ?_
      refine rg hz hinX6_readsGuard hK hP 0 rfl rfl 16 (by decide) (List.mem_of_getElem? (i := 2) rfl) rfl (v := .int (nI (sVl (G 9) (I 0) (sNx (G 9) (I 0) p)))) rfl dX6_readsGuard_32 ?_
      refine lv_ishr hz.1 hz.2.1 dX6_readsGuard_35 ?_
      refine toe (z := nI ((G 10 2) / 2 ^ (sVl (G 9) (I 0) (sNx (G 9) (I 0) p)))) (nI_shr (by omega) (by omega)) ?_
      refine lv_iconst (v := nI 1) hz.1 hz.2.1 dX6_readsGuard_36 (by decide) ?_
      refine lv_iand hz.1 hz.2.1 dX6_readsGuard_37 ?_
      refine toe (z := nI (((G 10 2) / 2 ^ (sVl (G 9) (I 0) (sNx (G 9) (I 0) p))) % 2)) (nI_and1 _) ?_
      refine lv_iconst (v := nI 1) hz.1 hz.2.1 dX6_readsGuard_38 (by decide) ?_
      refine jne (tgt := 44) hz dX6_readsGuard_39 (by decide) (by omega) (by omega) (fun c_39 => ?_) (fun c_39 => ?_)
      · refine lv_aload_n hz.1 hz.2.1 dX6_readsGuard_44 rfl (lv_at hl 0 rfl) ?_
        refine rg hz hinX6_readsGuard hK hP 0 rfl rfl 17 (by decide) (List.mem_of_getElem? (i := 3) rfl) rfl (v := .ref (b 11)) rfl dX6_readsGuard_45 ?_
        refine lv_iconst (v := nI 2) hz.1 hz.2.1 dX6_readsGuard_48 (by decide) ?_
        refine lv_dup2_11 hz.1 hz.2.1 dX6_readsGuard_49 rfl rfl ?_
        refine rald hz hK hP 11 0 rfl rfl (i := 2) (by omega) (by decide) (v := nI (G 10 2)) rfl dX6_readsGuard_50 ?_
        refine lv_iconst (v := nI 1) hz.1 hz.2.1 dX6_readsGuard_51 (by decide) ?_
        refine lv_aload_n hz.1 hz.2.1 dX6_readsGuard_52 rfl (lv_at hl 0 rfl) ?_
        refine rg hz hinX6_readsGuard hK hP 0 rfl rfl 16 (by decide) (List.mem_of_getElem? (i := 2) rfl) rfl (v := .int (nI (sVl (G 9) (I 0) (sNx (G 9) (I 0) p)))) rfl dX6_readsGuard_53 ?_
        refine lv_ishl hz.1 hz.2.1 dX6_readsGuard_56 ?_
        refine toe (z := nI (2 ^ (sVl (G 9) (I 0) (sNx (G 9) (I 0) p)))) (nI_shl1 (by omega)) ?_
        refine lv_ior hz.1 hz.2.1 dX6_readsGuard_57 ?_
        refine toe (z := nI ((G 10 2) ||| (2 ^ (sVl (G 9) (I 0) (sNx (G 9) (I 0) p))))) (fa_or _ _) ?_
        refine rast hz hK hP hD hS 11 0 rfl rfl (i := 2) (v := ((G 10 2) ||| (2 ^ (sVl (G 9) (I 0) (sNx (G 9) (I 0) p))))) (by omega) (by decide) dX6_readsGuard_58 (fun H locs hP hS => ?_)
        have hP : va_P D vwCl (mw b k (nset (nset (nset (nset I 1 (sNx (G 9) (I 0) p)) 2 (sEd (G 9) (I 0) (sNx (G 9) (I 0) p) - (sNx (G 9) (I 0) p))) 3 (sKd (G 9) (I 0) (sNx (G 9) (I 0) p))) 4 (sVl (G 9) (I 0) (sNx (G 9) (I 0) p))) J (gset G 10 (nset (G 10) 2 ((G 10 2) ||| (2 ^ (sVl (G 9) (I 0) (sNx (G 9) (I 0) p))))))) H := hP
        have hD := mw_D (I' := nset (nset (nset (nset I 1 (sNx (G 9) (I 0) p)) 2 (sEd (G 9) (I 0) (sNx (G 9) (I 0) p) - (sNx (G 9) (I 0) p))) 3 (sKd (G 9) (I 0) (sNx (G 9) (I 0) p))) 4 (sVl (G 9) (I 0) (sNx (G 9) (I 0) p))) (J' := J) (G' := gset G 10 (nset (G 10) 2 ((G 10 2) ||| (2 ^ (sVl (G 9) (I 0) (sNx (G 9) (I 0) p)))))) hD
        refine lv_aload_n hz.1 hz.2.1 dX6_readsGuard_59 rfl (lv_at hl 0 rfl) ?_
        refine wrVv (A := wA (mw b k (nset (nset (nset (nset I 1 p) 2 (sEd (G 9) (I 0) p - p)) 3 (sKd (G 9) (I 0) p)) 4 (sVl (G 9) (I 0) p)) J G)) (As := []) (rest := []) hz okYT (c6_goOn l_ D k b I J (gset G 10 (nset (G 10) 2 ((G 10 2) ||| (2 ^ (sVl (G 9) (I 0) (sNx (G 9) (I 0) p)))))) (sNx (G 9) (I 0) p)  hL (by omega) hT) (cwV 0 hz.2.2.2.2 gX6_readsGuard_X6_goOn rfl rfl rfl (by decide +kernel) ⟨Nat.le_of_ble_eq_true rfl, Nat.le_of_ble_eq_true rfl⟩) hK trivial hP hD hS 0 6 rfl rfl rfl rfl hl.1 rfl (Nat.le_of_ble_eq_true rfl) dX6_readsGuard_60 ⟨Nat.zero_le _, Nat.zero_le _⟩ (fun u H locs hp hP hS _ => ?_)
        have hP : va_P D vwCl (mw b k (nset (nset (nset (nset I 1 (sNx (G 9) (I 0) (sNx (G 9) (I 0) p))) 2 (sEd (G 9) (I 0) (sNx (G 9) (I 0) (sNx (G 9) (I 0) p)) - (sNx (G 9) (I 0) (sNx (G 9) (I 0) p)))) 3 (sKd (G 9) (I 0) (sNx (G 9) (I 0) (sNx (G 9) (I 0) p)))) 4 (sVl (G 9) (I 0) (sNx (G 9) (I 0) (sNx (G 9) (I 0) p)))) J (gset G 10 (nset (G 10) 2 ((G 10 2) ||| (2 ^ (sVl (G 9) (I 0) (sNx (G 9) (I 0) p))))))) H := hP
        have hD := mw_D (I' := nset (nset (nset (nset I 1 (sNx (G 9) (I 0) (sNx (G 9) (I 0) p))) 2 (sEd (G 9) (I 0) (sNx (G 9) (I 0) (sNx (G 9) (I 0) p)) - (sNx (G 9) (I 0) (sNx (G 9) (I 0) p)))) 3 (sKd (G 9) (I 0) (sNx (G 9) (I 0) (sNx (G 9) (I 0) p)))) 4 (sVl (G 9) (I 0) (sNx (G 9) (I 0) (sNx (G 9) (I 0) p)))) (J' := J) (G' := gset G 10 (nset (G 10) 2 ((G 10 2) ||| (2 ^ (sVl (G 9) (I 0) (sNx (G 9) (I 0) p)))))) hD
        refine lv_iconst (v := nI 1) hz.1 hz.2.1 dX6_readsGuard_63 (by decide) ?_
        have eR : sRG (G 9) (I 0) p (G 10) = (true, sNx (G 9) (I 0) (sNx (G 9) (I 0) p), nset (G 10) 2 (G 10 2 ||| 2 ^ sVl (G 9) (I 0) (sNx (G 9) (I 0) p))) := by rw [sRG, if_pos ⟨c_9, c_22, c_39⟩]
        have hP : va_P D vwCl (mw b k (nset (nset (nset (nset I 1 ((sRG (G 9) (I 0) p (G 10)).2.1)) 2 (sEd (G 9) (I 0) ((sRG (G 9) (I 0) p (G 10)).2.1) - ((sRG (G 9) (I 0) p (G 10)).2.1))) 3 (sKd (G 9) (I 0) ((sRG (G 9) (I 0) p (G 10)).2.1))) 4 (sVl (G 9) (I 0) ((sRG (G 9) (I 0) p (G 10)).2.1))) J (gset (gset G 10 (nset (G 10) 2 ((G 10 2) ||| (2 ^ (sVl (G 9) (I 0) (sNx (G 9) (I 0) p)))))) 11 (G 11))) H := by rw [eR]; exact hP
        exact wr_zret hz hr hlk dX6_readsGuard_64 hS (show nI 1 = bI true from rfl) ((nset (G 10) 2 ((G 10 2) ||| (2 ^ (sVl (G 9) (I 0) (sNx (G 9) (I 0) p)))), G 11)) hP (⟨by rw [eR], fun _ => by first | (rw [eR]; done) | (rw [eR]; rfl)⟩)
      · refine lv_iconst (v := nI 0) hz.1 hz.2.1 dX6_readsGuard_42 (by decide) ?_
        have eR : sRG (G 9) (I 0) p (G 10) = (false, sNx (G 9) (I 0) p, G 10) := by rw [sRG, if_neg (fun q => q.2.2 c_39)]
        have hP : va_P D vwCl (mw b k (nset (nset (nset (nset I 1 ((sRG (G 9) (I 0) p (G 10)).2.1)) 2 (sEd (G 9) (I 0) ((sRG (G 9) (I 0) p (G 10)).2.1) - ((sRG (G 9) (I 0) p (G 10)).2.1))) 3 (sKd (G 9) (I 0) ((sRG (G 9) (I 0) p (G 10)).2.1))) 4 (sVl (G 9) (I 0) ((sRG (G 9) (I 0) p (G 10)).2.1))) J (gset (gset G 10 (G 10)) 11 (G 11))) H := by rw [eR]; exact hP
        exact wr_zret hz hr hlk dX6_readsGuard_43 hS (show nI 0 = bI false from rfl) ((G 10, G 11)) hP (⟨by rw [eR], fun q => by rw [eR] at q; cases q⟩)

theorem hinX6_readsWind : ∀ w ∈ wsX60, w ∈ wsX6_readsWind := fun _ h => List.mem_cons_of_mem _ (List.mem_append_right _ h)
set_option maxHeartbeats 4000000 in
set_option maxRecDepth 100000 in
theorem c6_readsWind (l_ : Launch) (D : va_G) (k : Nat → ClassId) (b I J : Nat → Nat) (G : Nat → Nat → Nat) (p : Nat) (hL : I 0 ≤ 200) (hp : p ≤ I 0) (hT : ∀ j, G 9 j < 256) (hN : Wf (G 10)) : Met l_ yX6_readsWind wsX6_readsWind ({ frames := 5, cells := 0, slots := 0, locals := 112 }) (va_Pc [.ref (b 0)] (wH YT D k (mw b k (nset (nset (nset (nset I 1 p) 2 (sEd (G 9) (I 0) p - p)) 3 (sKd (G 9) (I 0) p)) 4 (sVl (G 9) (I 0) p)) J G))) (va_Qi (fun (r : Int32) (u : (Nat → Nat) × (Nat → Nat)) => r = bI (sRD (G 9) (I 0) p (G 10)).1 ∧ ((sRD (G 9) (I 0) p (G 10)).1 = true → u.1 = (sRD (G 9) (I 0) p (G 10)).2.2)) (fun (u : (Nat → Nat) × (Nat → Nat)) (t_ : State) => va_P D vwCl ((fun (u : (Nat → Nat) × (Nat → Nat)) => mw b k (nset (nset (nset (nset I 1 ((sRD (G 9) (I 0) p (G 10)).2.1)) 2 (sEd (G 9) (I 0) ((sRD (G 9) (I 0) p (G 10)).2.1) - ((sRD (G 9) (I 0) p (G 10)).2.1))) 3 (sKd (G 9) (I 0) ((sRD (G 9) (I 0) p (G 10)).2.1))) 4 (sVl (G 9) (I 0) ((sRD (G 9) (I 0) p (G 10)).2.1))) J (gset (gset G 10 u.1) 11 u.2)) u) t_.heap) (wA (mw b k (nset (nset (nset (nset I 1 p) 2 (sEd (G 9) (I 0) p - p)) 3 (sKd (G 9) (I 0) p)) 4 (sVl (G 9) (I 0) p)) J G))) 0 0 (wA (mw b k (nset (nset (nset (nset I 1 p) 2 (sEd (G 9) (I 0) p - p)) 3 (sKd (G 9) (I 0) p)) 4 (sVl (G 9) (I 0) p)) J G)) := by
  refine my_entry (cc := cX6_readsWind) (maxL := 1) (ret := some .boolean) (by decide) rfl (Nat.le_of_ble_eq_true rfl) ?_
  intro p_ e_ s_ m_ bl_ me_ c_ hz hr hlk hB ls hl
  obtain ⟨hP, hK, hD0, -⟩ := hB
  have hD := wA.self hD0
  have hS : va_S (wA (mw b k (nset (nset (nset (nset I 1 p) 2 (sEd (G 9) (I 0) p - p)) 3 (sKd (G 9) (I 0) p)) 4 (sVl (G 9) (I 0) p)) J G)) s_.heap s_.heap [] := va_S.rf
  have hl : lv_has ls 1 [(0, .ref (b 0))] := hl
  have g2 := hN.n2
  have g9 := hN.n9
  have gd := hN.gd
  have gw := hN.wc
  have gp := hN.pc
  have m1 := sNx_in (T := G 9) hp
  have m2 := sNx_in (T := G 9) m1.2.1
  have m3 := sNx_in (T := G 9) m2.2.1
  have m4 := sNx_in (T := G 9) m3.2.1
  have w1 := sVl_lt (L := I 0) (p := sNx (G 9) (I 0) p) hT
  have w2 := sVl_lt (L := I 0) (p := sNx (G 9) (I 0) (sNx (G 9) (I 0) p)) hT
  have w3 := sVl_lt (L := I 0) (p := sNx (G 9) (I 0) (sNx (G 9) (I 0) (sNx (G 9) (I 0) p))) hT
  have kd1 := sKd_le (G 9) (I 0) (sNx (G 9) (I 0) p)
  refine lv_aload_n hz.1 hz.2.1 dX6_readsWind_0 rfl (lv_at hl 0 rfl) ?_
  refine rg hz hinX6_readsWind hK hP 0 rfl rfl 17 (by decide) (List.mem_of_getElem? (i := 1) rfl) rfl (v := .ref (b 11)) rfl dX6_readsWind_1 ?_
  refine lv_bipush (v := nI 19) hz.1 hz.2.1 dX6_readsWind_4 (by decide) ?_
  refine rald hz hK hP 11 0 rfl rfl (i := 19) (by omega) (by decide) (v := nI (G 10 19)) rfl dX6_readsWind_6 ?_
  refine lv_bipush (v := nI 6) hz.1 hz.2.1 dX6_readsWind_7 (by decide) ?_
  refine jne (tgt := 14) hz dX6_readsWind_9 (by decide) (by omega) (by omega) (fun c_9 => ?_) (fun c_9 => ?_)
  · refine lv_aload_n hz.1 hz.2.1 dX6_readsWind_14 rfl (lv_at hl 0 rfl) ?_
    refine wrVv (A := wA (mw b k (nset (nset (nset (nset I 1 p) 2 (sEd (G 9) (I 0) p - p)) 3 (sKd (G 9) (I 0) p)) 4 (sVl (G 9) (I 0) p)) J G)) (As := []) (rest := []) hz okYT (c6_goOn l_ D k b I J G p  hL (by omega) hT) (cwV 0 hz.2.2.2.2 gX6_readsWind_X6_goOn rfl rfl rfl (by decide +kernel) ⟨Nat.le_of_ble_eq_true rfl, Nat.le_of_ble_eq_true rfl⟩) hK trivial hP hD hS 0 6 rfl rfl rfl rfl hl.1 rfl (Nat.le_of_ble_eq_true rfl) dX6_readsWind_15 ⟨Nat.zero_le _, Nat.zero_le _⟩ (fun u H locs hp hP hS _ => ?_)
    have hP : va_P D vwCl (mw b k (nset (nset (nset (nset I 1 (sNx (G 9) (I 0) p)) 2 (sEd (G 9) (I 0) (sNx (G 9) (I 0) p) - (sNx (G 9) (I 0) p))) 3 (sKd (G 9) (I 0) (sNx (G 9) (I 0) p))) 4 (sVl (G 9) (I 0) (sNx (G 9) (I 0) p))) J G) H := hP
    have hD := mw_D (I' := nset (nset (nset (nset I 1 (sNx (G 9) (I 0) p)) 2 (sEd (G 9) (I 0) (sNx (G 9) (I 0) p) - (sNx (G 9) (I 0) p))) 3 (sKd (G 9) (I 0) (sNx (G 9) (I 0) p))) 4 (sVl (G 9) (I 0) (sNx (G 9) (I 0) p))) (J' := J) (G' := G) hD
    refine lv_aload_n hz.1 hz.2.1 dX6_readsWind_18 rfl (lv_at hl 0 rfl) ?_
    refine lv_iconst (v := nI 0) hz.1 hz.2.1 dX6_readsWind_19 (by decide) ?_
    refine lv_iconst (v := nI 0) hz.1 hz.2.1 dX6_readsWind_20 (by decide) ?_
    refine lv_bipush (v := nI 59) hz.1 hz.2.1 dX6_readsWind_21 (by decide) ?_
    by_cases hc_23 : sNum (G 9) (I 0) (sNx (G 9) (I 0) p) 0 59
    · refine wrV (A := wA (mw b k (nset (nset (nset (nset I 1 p) 2 (sEd (G 9) (I 0) p - p)) 3 (sKd (G 9) (I 0) p)) 4 (sVl (G 9) (I 0) p)) J G)) (As := [.int (nI 0), .int (nI 0), .int (nI 59)]) (rest := []) hz okYT (c6_takes_yes l_ D k b I J G (sNx (G 9) (I 0) p) 0 0 59 hL (by omega) hT (by omega) (by omega) hc_23) (cwV 3 hz.2.2.2.2 gX6_readsWind_X6_takes rfl rfl rfl (by decide +kernel) ⟨Nat.le_of_ble_eq_true rfl, Nat.le_of_ble_eq_true rfl⟩) hK trivial hP hD hS 0 6 rfl rfl rfl rfl hl.1 rfl (Nat.le_of_ble_eq_true rfl) dX6_readsWind_23 ⟨Nat.zero_le _, Nat.zero_le _⟩ (fun r u H locs hp hP hS _ => ?_)
      obtain rfl : r = bI true := hp
      have hP : va_P D vwCl (mw b k (nset (nset (nset (nset I 1 (sNx (G 9) (I 0) (sNx (G 9) (I 0) p))) 2 (sEd (G 9) (I 0) (sNx (G 9) (I 0) (sNx (G 9) (I 0) p)) - (sNx (G 9) (I 0) (sNx (G 9) (I 0) p)))) 3 (sKd (G 9) (I 0) (sNx (G 9) (I 0) (sNx (G 9) (I 0) p)))) 4 (sVl (G 9) (I 0) (sNx (G 9) (I 0) (sNx (G 9) (I 0) p)))) J (gset G 11 (nset (G 11) 0 (sVl (G 9) (I 0) (sNx (G 9) (I 0) p))))) H := hP
      have hD := mw_D (I' := nset (nset (nset (nset I 1 (sNx (G 9) (I 0) (sNx (G 9) (I 0) p))) 2 (sEd (G 9) (I 0) (sNx (G 9) (I 0) (sNx (G 9) (I 0) p)) - (sNx (G 9) (I 0) (sNx (G 9) (I 0) p)))) 3 (sKd (G 9) (I 0) (sNx (G 9) (I 0) (sNx (G 9) (I 0) p)))) 4 (sVl (G 9) (I 0) (sNx (G 9) (I 0) (sNx (G 9) (I 0) p)))) (J' := J) (G' := gset G 11 (nset (G 11) 0 (sVl (G 9) (I 0) (sNx (G 9) (I 0) p)))) hD
      refine zeq (tgt := 42) hz dX6_readsWind_26 (by decide) (fun c_26 => ?_) (fun c_26 => ?_)
      · exact absurd c_26 (by decide)
      · refine lv_aload_n hz.1 hz.2.1 dX6_readsWind_29 rfl (lv_at hl 0 rfl) ?_
        refine lv_iconst (v := nI 1) hz.1 hz.2.1 dX6_readsWind_30 (by decide) ?_
        refine lv_iconst (v := nI 0) hz.1 hz.2.1 dX6_readsWind_31 (by decide) ?_
        refine lv_aload_n hz.1 hz.2.1 dX6_readsWind_32 rfl (lv_at hl 0 rfl) ?_
        refine rdV (A := wA (mw b k (nset (nset (nset (nset I 1 p) 2 (sEd (G 9) (I 0) p - p)) 3 (sKd (G 9) (I 0) p)) 4 (sVl (G 9) (I 0) p)) J G)) (As := []) (rest := [.int (nI 0), .int (nI 1), .ref (b 0)]) hz okYT (c6_lastWire l_ D k b (nset (nset (nset (nset I 1 (sNx (G 9) (I 0) (sNx (G 9) (I 0) p))) 2 (sEd (G 9) (I 0) (sNx (G 9) (I 0) (sNx (G 9) (I 0) p)) - (sNx (G 9) (I 0) (sNx (G 9) (I 0) p)))) 3 (sKd (G 9) (I 0) (sNx (G 9) (I 0) (sNx (G 9) (I 0) p)))) 4 (sVl (G 9) (I 0) (sNx (G 9) (I 0) (sNx (G 9) (I 0) p)))) J (gset G 11 (nset (G 11) 0 (sVl (G 9) (I 0) (sNx (G 9) (I 0) p)))) (show 2 ≤ G 10 0 by omega)) (cwV 0 hz.2.2.2.2 gX6_readsWind_X6_lastWire rfl rfl rfl (by decide +kernel) ⟨Nat.le_of_ble_eq_true rfl, Nat.le_of_ble_eq_true rfl⟩) hK trivial hP hD hS 0 6 rfl rfl rfl rfl hl.1 rfl (Nat.le_of_ble_eq_true rfl) dX6_readsWind_33 ⟨Nat.zero_le _, Nat.zero_le _⟩ ?_
        by_cases hc_36 : sNum (G 9) (I 0) (sNx (G 9) (I 0) (sNx (G 9) (I 0) p)) 0 (G 10 0 - 2)
        · refine wrV (A := wA (mw b k (nset (nset (nset (nset I 1 p) 2 (sEd (G 9) (I 0) p - p)) 3 (sKd (G 9) (I 0) p)) 4 (sVl (G 9) (I 0) p)) J G)) (As := [.int (nI 1), .int (nI 0), .int (nI (G 10 0 - 2))]) (rest := []) hz okYT (c6_takes_yes l_ D k b I J (gset G 11 (nset (G 11) 0 (sVl (G 9) (I 0) (sNx (G 9) (I 0) p)))) (sNx (G 9) (I 0) (sNx (G 9) (I 0) p)) 1 0 (G 10 0 - 2) hL (by omega) hT (by omega) (by omega) hc_36) (cwV 3 hz.2.2.2.2 gX6_readsWind_X6_takes rfl rfl rfl (by decide +kernel) ⟨Nat.le_of_ble_eq_true rfl, Nat.le_of_ble_eq_true rfl⟩) hK trivial hP hD hS 0 6 rfl rfl rfl rfl hl.1 rfl (Nat.le_of_ble_eq_true rfl) dX6_readsWind_36 ⟨Nat.zero_le _, Nat.zero_le _⟩ (fun r u H locs hp hP hS _ => ?_)
          obtain rfl : r = bI true := hp
          have hP : va_P D vwCl (mw b k (nset (nset (nset (nset I 1 (sNx (G 9) (I 0) (sNx (G 9) (I 0) (sNx (G 9) (I 0) p)))) 2 (sEd (G 9) (I 0) (sNx (G 9) (I 0) (sNx (G 9) (I 0) (sNx (G 9) (I 0) p))) - (sNx (G 9) (I 0) (sNx (G 9) (I 0) (sNx (G 9) (I 0) p))))) 3 (sKd (G 9) (I 0) (sNx (G 9) (I 0) (sNx (G 9) (I 0) (sNx (G 9) (I 0) p))))) 4 (sVl (G 9) (I 0) (sNx (G 9) (I 0) (sNx (G 9) (I 0) (sNx (G 9) (I 0) p))))) J (gset G 11 (nset (nset (G 11) 0 (sVl (G 9) (I 0) (sNx (G 9) (I 0) p))) 1 (sVl (G 9) (I 0) (sNx (G 9) (I 0) (sNx (G 9) (I 0) p)))))) H := hP
          have hD := mw_D (I' := nset (nset (nset (nset I 1 (sNx (G 9) (I 0) (sNx (G 9) (I 0) (sNx (G 9) (I 0) p)))) 2 (sEd (G 9) (I 0) (sNx (G 9) (I 0) (sNx (G 9) (I 0) (sNx (G 9) (I 0) p))) - (sNx (G 9) (I 0) (sNx (G 9) (I 0) (sNx (G 9) (I 0) p))))) 3 (sKd (G 9) (I 0) (sNx (G 9) (I 0) (sNx (G 9) (I 0) (sNx (G 9) (I 0) p))))) 4 (sVl (G 9) (I 0) (sNx (G 9) (I 0) (sNx (G 9) (I 0) (sNx (G 9) (I 0) p))))) (J' := J) (G' := gset G 11 (nset (nset (G 11) 0 (sVl (G 9) (I 0) (sNx (G 9) (I 0) p))) 1 (sVl (G 9) (I 0) (sNx (G 9) (I 0) (sNx (G 9) (I 0) p))))) hD
          refine zne (tgt := 44) hz dX6_readsWind_39 (by decide) (fun c_39 => ?_) (fun c_39 => ?_)
          · refine lv_aload_n hz.1 hz.2.1 dX6_readsWind_44 rfl (lv_at hl 0 rfl) ?_
            refine rg hz hinX6_readsWind hK hP 0 rfl rfl 17 (by decide) (List.mem_of_getElem? (i := 1) rfl) rfl (v := .ref (b 11)) rfl dX6_readsWind_45 ?_
            refine lv_aload_n hz.1 hz.2.1 dX6_readsWind_48 rfl (lv_at hl 0 rfl) ?_
            refine rg hz hinX6_readsWind hK hP 0 rfl rfl 18 (by decide) (List.mem_of_getElem? (i := 2) rfl) rfl (v := .ref (b 12)) rfl dX6_readsWind_49 ?_
            refine lv_iconst (v := nI 0) hz.1 hz.2.1 dX6_readsWind_52 (by decide) ?_
            refine rald hz hK hP 12 0 rfl rfl (i := 0) (by omega) (by decide) (v := nI ((nset (nset (G 11) 0 (sVl (G 9) (I 0) (sNx (G 9) (I 0) p))) 1 (sVl (G 9) (I 0) (sNx (G 9) (I 0) (sNx (G 9) (I 0) p)))) 0)) rfl dX6_readsWind_53 ?_
            refine toe (z := nI (sVl (G 9) (I 0) (sNx (G 9) (I 0) p))) (rfl) ?_
            refine lv_aload_n hz.1 hz.2.1 dX6_readsWind_54 rfl (lv_at hl 0 rfl) ?_
            refine rg hz hinX6_readsWind hK hP 0 rfl rfl 18 (by decide) (List.mem_of_getElem? (i := 2) rfl) rfl (v := .ref (b 12)) rfl dX6_readsWind_55 ?_
            refine lv_iconst (v := nI 1) hz.1 hz.2.1 dX6_readsWind_58 (by decide) ?_
            refine rald hz hK hP 12 0 rfl rfl (i := 1) (by omega) (by decide) (v := nI ((nset (nset (G 11) 0 (sVl (G 9) (I 0) (sNx (G 9) (I 0) p))) 1 (sVl (G 9) (I 0) (sNx (G 9) (I 0) (sNx (G 9) (I 0) p)))) 1)) rfl dX6_readsWind_59 ?_
            refine toe (z := nI (sVl (G 9) (I 0) (sNx (G 9) (I 0) (sNx (G 9) (I 0) p)))) (rfl) ?_
            refine wrSv (A := wA (mw b k (nset (nset (nset (nset I 1 p) 2 (sEd (G 9) (I 0) p - p)) 3 (sKd (G 9) (I 0) p)) 4 (sVl (G 9) (I 0) p)) J G)) (As := [.ref (b 11), .int (nI (sVl (G 9) (I 0) (sNx (G 9) (I 0) p))), .int (nI (sVl (G 9) (I 0) (sNx (G 9) (I 0) (sNx (G 9) (I 0) p))))]) (rest := []) hz okYT (c6_layWind_next l_ D k b (nset (nset (nset (nset I 1 (sNx (G 9) (I 0) (sNx (G 9) (I 0) (sNx (G 9) (I 0) p)))) 2 (sEd (G 9) (I 0) (sNx (G 9) (I 0) (sNx (G 9) (I 0) (sNx (G 9) (I 0) p))) - (sNx (G 9) (I 0) (sNx (G 9) (I 0) (sNx (G 9) (I 0) p))))) 3 (sKd (G 9) (I 0) (sNx (G 9) (I 0) (sNx (G 9) (I 0) (sNx (G 9) (I 0) p))))) 4 (sVl (G 9) (I 0) (sNx (G 9) (I 0) (sNx (G 9) (I 0) (sNx (G 9) (I 0) p))))) J (gset G 11 (nset (nset (G 11) 0 (sVl (G 9) (I 0) (sNx (G 9) (I 0) p))) 1 (sVl (G 9) (I 0) (sNx (G 9) (I 0) (sNx (G 9) (I 0) p))))) (sVl (G 9) (I 0) (sNx (G 9) (I 0) p)) (sVl (G 9) (I 0) (sNx (G 9) (I 0) (sNx (G 9) (I 0) p))) (show G 10 19 < 6 by omega)) (va_cwS 3 hz.2.2.2.2 gX6_readsWind_X6_layWind rfl rfl rfl (by decide +kernel) ⟨Nat.le_of_ble_eq_true rfl, Nat.le_of_ble_eq_true rfl⟩) hK trivial hP hD hS rfl hl.1 rfl (Nat.le_of_ble_eq_true rfl) dX6_readsWind_60 ⟨Nat.zero_le _, Nat.zero_le _⟩ (fun u H locs hp hP hS _ => ?_)
            have hP : va_P D vwCl (mw b k (nset (nset (nset (nset I 1 (sNx (G 9) (I 0) (sNx (G 9) (I 0) (sNx (G 9) (I 0) p)))) 2 (sEd (G 9) (I 0) (sNx (G 9) (I 0) (sNx (G 9) (I 0) (sNx (G 9) (I 0) p))) - (sNx (G 9) (I 0) (sNx (G 9) (I 0) (sNx (G 9) (I 0) p))))) 3 (sKd (G 9) (I 0) (sNx (G 9) (I 0) (sNx (G 9) (I 0) (sNx (G 9) (I 0) p))))) 4 (sVl (G 9) (I 0) (sNx (G 9) (I 0) (sNx (G 9) (I 0) (sNx (G 9) (I 0) p))))) J (gset (gset G 10 (sAddWind (G 10) (sVl (G 9) (I 0) (sNx (G 9) (I 0) p)) (sVl (G 9) (I 0) (sNx (G 9) (I 0) (sNx (G 9) (I 0) p))))) 11 (nset (nset (G 11) 0 (sVl (G 9) (I 0) (sNx (G 9) (I 0) p))) 1 (sVl (G 9) (I 0) (sNx (G 9) (I 0) (sNx (G 9) (I 0) p)))))) H := hP
            have hD := mw_D (I' := nset (nset (nset (nset I 1 (sNx (G 9) (I 0) (sNx (G 9) (I 0) (sNx (G 9) (I 0) p)))) 2 (sEd (G 9) (I 0) (sNx (G 9) (I 0) (sNx (G 9) (I 0) (sNx (G 9) (I 0) p))) - (sNx (G 9) (I 0) (sNx (G 9) (I 0) (sNx (G 9) (I 0) p))))) 3 (sKd (G 9) (I 0) (sNx (G 9) (I 0) (sNx (G 9) (I 0) (sNx (G 9) (I 0) p))))) 4 (sVl (G 9) (I 0) (sNx (G 9) (I 0) (sNx (G 9) (I 0) (sNx (G 9) (I 0) p))))) (J' := J) (G' := gset (gset G 10 (sAddWind (G 10) (sVl (G 9) (I 0) (sNx (G 9) (I 0) p)) (sVl (G 9) (I 0) (sNx (G 9) (I 0) (sNx (G 9) (I 0) p))))) 11 (nset (nset (G 11) 0 (sVl (G 9) (I 0) (sNx (G 9) (I 0) p))) 1 (sVl (G 9) (I 0) (sNx (G 9) (I 0) (sNx (G 9) (I 0) p))))) hD
            refine lv_iconst (v := nI 1) hz.1 hz.2.1 dX6_readsWind_63 (by decide) ?_
            have eR : sRD (G 9) (I 0) p (G 10) = (true, sNx (G 9) (I 0) (sNx (G 9) (I 0) (sNx (G 9) (I 0) p)), sAddWind (G 10) (sVl (G 9) (I 0) (sNx (G 9) (I 0) p)) (sVl (G 9) (I 0) (sNx (G 9) (I 0) (sNx (G 9) (I 0) p)))) := by rw [sRD, if_neg c_9, if_pos hc_23, if_pos hc_36]
            have hP : va_P D vwCl (mw b k (nset (nset (nset (nset I 1 ((sRD (G 9) (I 0) p (G 10)).2.1)) 2 (sEd (G 9) (I 0) ((sRD (G 9) (I 0) p (G 10)).2.1) - ((sRD (G 9) (I 0) p (G 10)).2.1))) 3 (sKd (G 9) (I 0) ((sRD (G 9) (I 0) p (G 10)).2.1))) 4 (sVl (G 9) (I 0) ((sRD (G 9) (I 0) p (G 10)).2.1))) J (gset (gset G 10 (sAddWind (G 10) (sVl (G 9) (I 0) (sNx (G 9) (I 0) p)) (sVl (G 9) (I 0) (sNx (G 9) (I 0) (sNx (G 9) (I 0) p))))) 11 (nset (nset (G 11) 0 (sVl (G 9) (I 0) (sNx (G 9) (I 0) p))) 1 (sVl (G 9) (I 0) (sNx (G 9) (I 0) (sNx (G 9) (I 0) p)))))) H := by rw [eR]; exact hP
            exact wr_zret hz hr hlk dX6_readsWind_64 hS (show nI 1 = bI true from rfl) ((sAddWind (G 10) (sVl (G 9) (I 0) (sNx (G 9) (I 0) p)) (sVl (G 9) (I 0) (sNx (G 9) (I 0) (sNx (G 9) (I 0) p))), nset (nset (G 11) 0 (sVl (G 9) (I 0) (sNx (G 9) (I 0) p))) 1 (sVl (G 9) (I 0) (sNx (G 9) (I 0) (sNx (G 9) (I 0) p))))) hP (⟨by rw [eR], fun _ => by first | (rw [eR]; done) | (rw [eR]; rfl)⟩)
          · exact absurd c_39 (by decide)
        · refine rdV (A := wA (mw b k (nset (nset (nset (nset I 1 p) 2 (sEd (G 9) (I 0) p - p)) 3 (sKd (G 9) (I 0) p)) 4 (sVl (G 9) (I 0) p)) J G)) (As := [.int (nI 1), .int (nI 0), .int (nI (G 10 0 - 2))]) (rest := []) hz okYT (c6_takes_no l_ D k b I J (gset G 11 (nset (G 11) 0 (sVl (G 9) (I 0) (sNx (G 9) (I 0) p)))) (sNx (G 9) (I 0) (sNx (G 9) (I 0) p)) 1 0 (G 10 0 - 2) hL (by omega) hT (by omega) (by omega) (by omega) hc_36) (cwV 3 hz.2.2.2.2 gX6_readsWind_X6_takes rfl rfl rfl (by decide +kernel) ⟨Nat.le_of_ble_eq_true rfl, Nat.le_of_ble_eq_true rfl⟩) hK trivial hP hD hS 0 6 rfl rfl rfl rfl hl.1 rfl (Nat.le_of_ble_eq_true rfl) dX6_readsWind_36 ⟨Nat.zero_le _, Nat.zero_le _⟩ ?_
          refine zne (tgt := 44) hz dX6_readsWind_39 (by decide) (fun c_39 => ?_) (fun c_39 => ?_)
          · exact absurd c_39 (by decide)
          · refine lv_iconst (v := nI 0) hz.1 hz.2.1 dX6_readsWind_42 (by decide) ?_
            have eR : sRD (G 9) (I 0) p (G 10) = (false, sNx (G 9) (I 0) (sNx (G 9) (I 0) p), G 10) := by rw [sRD, if_neg c_9, if_pos hc_23, if_neg hc_36]
            have hP : va_P D vwCl (mw b k (nset (nset (nset (nset I 1 ((sRD (G 9) (I 0) p (G 10)).2.1)) 2 (sEd (G 9) (I 0) ((sRD (G 9) (I 0) p (G 10)).2.1) - ((sRD (G 9) (I 0) p (G 10)).2.1))) 3 (sKd (G 9) (I 0) ((sRD (G 9) (I 0) p (G 10)).2.1))) 4 (sVl (G 9) (I 0) ((sRD (G 9) (I 0) p (G 10)).2.1))) J (gset (gset G 10 (G 10)) 11 (nset (G 11) 0 (sVl (G 9) (I 0) (sNx (G 9) (I 0) p))))) H := by rw [eR]; exact hP
            exact wr_zret hz hr hlk dX6_readsWind_43 hS (show nI 0 = bI false from rfl) ((G 10, nset (G 11) 0 (sVl (G 9) (I 0) (sNx (G 9) (I 0) p)))) hP (⟨by rw [eR], fun q => by rw [eR] at q; cases q⟩)
    · refine rdV (A := wA (mw b k (nset (nset (nset (nset I 1 p) 2 (sEd (G 9) (I 0) p - p)) 3 (sKd (G 9) (I 0) p)) 4 (sVl (G 9) (I 0) p)) J G)) (As := [.int (nI 0), .int (nI 0), .int (nI 59)]) (rest := []) hz okYT (c6_takes_no l_ D k b I J G (sNx (G 9) (I 0) p) 0 0 59 hL (by omega) hT (by omega) (by omega) (by omega) hc_23) (cwV 3 hz.2.2.2.2 gX6_readsWind_X6_takes rfl rfl rfl (by decide +kernel) ⟨Nat.le_of_ble_eq_true rfl, Nat.le_of_ble_eq_true rfl⟩) hK trivial hP hD hS 0 6 rfl rfl rfl rfl hl.1 rfl (Nat.le_of_ble_eq_true rfl) dX6_readsWind_23 ⟨Nat.zero_le _, Nat.zero_le _⟩ ?_
      refine zeq (tgt := 42) hz dX6_readsWind_26 (by decide) (fun c_26 => ?_) (fun c_26 => ?_)
      · refine lv_iconst (v := nI 0) hz.1 hz.2.1 dX6_readsWind_42 (by decide) ?_
        have eR : sRD (G 9) (I 0) p (G 10) = (false, sNx (G 9) (I 0) p, G 10) := by rw [sRD, if_neg c_9, if_neg hc_23]
        have hP : va_P D vwCl (mw b k (nset (nset (nset (nset I 1 ((sRD (G 9) (I 0) p (G 10)).2.1)) 2 (sEd (G 9) (I 0) ((sRD (G 9) (I 0) p (G 10)).2.1) - ((sRD (G 9) (I 0) p (G 10)).2.1))) 3 (sKd (G 9) (I 0) ((sRD (G 9) (I 0) p (G 10)).2.1))) 4 (sVl (G 9) (I 0) ((sRD (G 9) (I 0) p (G 10)).2.1))) J (gset (gset G 10 (G 10)) 11 (G 11))) H := by rw [eR]; exact hP
        exact wr_zret hz hr hlk dX6_readsWind_43 hS (show nI 0 = bI false from rfl) ((G 10, G 11)) hP (⟨by rw [eR], fun q => by rw [eR] at q; cases q⟩)
      · exact absurd c_26 (by decide)
  · refine lv_iconst (v := nI 0) hz.1 hz.2.1 dX6_readsWind_12 (by decide) ?_
    have eR : sRD (G 9) (I 0) p (G 10) = (false, p, G 10) := by rw [sRD, if_pos c_9]
    have hP : va_P D vwCl (mw b k (nset (nset (nset (nset I 1 ((sRD (G 9) (I 0) p (G 10)).2.1)) 2 (sEd (G 9) (I 0) ((sRD (G 9) (I 0) p (G 10)).2.1) - ((sRD (G 9) (I 0) p (G 10)).2.1))) 3 (sKd (G 9) (I 0) ((sRD (G 9) (I 0) p (G 10)).2.1))) 4 (sVl (G 9) (I 0) ((sRD (G 9) (I 0) p (G 10)).2.1))) J (gset (gset G 10 (G 10)) 11 (G 11))) s_.heap := by rw [eR]; exact hP
    exact wr_zret hz hr hlk dX6_readsWind_13 hS (show nI 0 = bI false from rfl) ((G 10, G 11)) hP (⟨by rw [eR], fun q => by rw [eR] at q; cases q⟩)

theorem hinX6_readsPass : ∀ w ∈ wsX60, w ∈ wsX6_readsPass := fun _ h => List.mem_cons_of_mem _ (List.mem_append_right _ h)
set_option maxHeartbeats 4000000 in
set_option maxRecDepth 100000 in
theorem c6_readsPass (l_ : Launch) (D : va_G) (k : Nat → ClassId) (b I J : Nat → Nat) (G : Nat → Nat → Nat) (p : Nat) (hL : I 0 ≤ 200) (hp : p ≤ I 0) (hT : ∀ j, G 9 j < 256) (hN : Wf (G 10)) : Met l_ yX6_readsPass wsX6_readsPass ({ frames := 5, cells := 0, slots := 0, locals := 112 }) (va_Pc [.ref (b 0)] (wH YT D k (mw b k (nset (nset (nset (nset I 1 p) 2 (sEd (G 9) (I 0) p - p)) 3 (sKd (G 9) (I 0) p)) 4 (sVl (G 9) (I 0) p)) J G))) (va_Qi (fun (r : Int32) (u : (Nat → Nat) × (Nat → Nat)) => r = bI (sRP (G 9) (I 0) p (G 10)).1 ∧ ((sRP (G 9) (I 0) p (G 10)).1 = true → u.1 = (sRP (G 9) (I 0) p (G 10)).2.2)) (fun (u : (Nat → Nat) × (Nat → Nat)) (t_ : State) => va_P D vwCl ((fun (u : (Nat → Nat) × (Nat → Nat)) => mw b k (nset (nset (nset (nset I 1 ((sRP (G 9) (I 0) p (G 10)).2.1)) 2 (sEd (G 9) (I 0) ((sRP (G 9) (I 0) p (G 10)).2.1) - ((sRP (G 9) (I 0) p (G 10)).2.1))) 3 (sKd (G 9) (I 0) ((sRP (G 9) (I 0) p (G 10)).2.1))) 4 (sVl (G 9) (I 0) ((sRP (G 9) (I 0) p (G 10)).2.1))) J (gset (gset G 10 u.1) 11 u.2)) u) t_.heap) (wA (mw b k (nset (nset (nset (nset I 1 p) 2 (sEd (G 9) (I 0) p - p)) 3 (sKd (G 9) (I 0) p)) 4 (sVl (G 9) (I 0) p)) J G))) 0 0 (wA (mw b k (nset (nset (nset (nset I 1 p) 2 (sEd (G 9) (I 0) p - p)) 3 (sKd (G 9) (I 0) p)) 4 (sVl (G 9) (I 0) p)) J G)) := by
  refine my_entry (cc := cX6_readsPass) (maxL := 1) (ret := some .boolean) (by decide) rfl (Nat.le_of_ble_eq_true rfl) ?_
  intro p_ e_ s_ m_ bl_ me_ c_ hz hr hlk hB ls hl
  obtain ⟨hP, hK, hD0, -⟩ := hB
  have hD := wA.self hD0
  have hS : va_S (wA (mw b k (nset (nset (nset (nset I 1 p) 2 (sEd (G 9) (I 0) p - p)) 3 (sKd (G 9) (I 0) p)) 4 (sVl (G 9) (I 0) p)) J G)) s_.heap s_.heap [] := va_S.rf
  have hl : lv_has ls 1 [(0, .ref (b 0))] := hl
  have g2 := hN.n2
  have g9 := hN.n9
  have gd := hN.gd
  have gw := hN.wc
  have gp := hN.pc
  have m1 := sNx_in (T := G 9) hp
  have m2 := sNx_in (T := G 9) m1.2.1
  have m3 := sNx_in (T := G 9) m2.2.1
  have m4 := sNx_in (T := G 9) m3.2.1
  have w1 := sVl_lt (L := I 0) (p := sNx (G 9) (I 0) p) hT
  have w2 := sVl_lt (L := I 0) (p := sNx (G 9) (I 0) (sNx (G 9) (I 0) p)) hT
  have w3 := sVl_lt (L := I 0) (p := sNx (G 9) (I 0) (sNx (G 9) (I 0) (sNx (G 9) (I 0) p))) hT
  have kd1 := sKd_le (G 9) (I 0) (sNx (G 9) (I 0) p)
  refine lv_aload_n hz.1 hz.2.1 dX6_readsPass_0 rfl (lv_at hl 0 rfl) ?_
  refine rg hz hinX6_readsPass hK hP 0 rfl rfl 17 (by decide) (List.mem_of_getElem? (i := 1) rfl) rfl (v := .ref (b 11)) rfl dX6_readsPass_1 ?_
  refine lv_bipush (v := nI 32) hz.1 hz.2.1 dX6_readsPass_4 (by decide) ?_
  refine rald hz hK hP 11 0 rfl rfl (i := 32) (by omega) (by decide) (v := nI (G 10 32)) rfl dX6_readsPass_6 ?_
  refine lv_bipush (v := nI 8) hz.1 hz.2.1 dX6_readsPass_7 (by decide) ?_
  refine jne (tgt := 14) hz dX6_readsPass_9 (by decide) (by omega) (by omega) (fun c_9 => ?_) (fun c_9 => ?_)
  · refine lv_aload_n hz.1 hz.2.1 dX6_readsPass_14 rfl (lv_at hl 0 rfl) ?_
    refine wrVv (A := wA (mw b k (nset (nset (nset (nset I 1 p) 2 (sEd (G 9) (I 0) p - p)) 3 (sKd (G 9) (I 0) p)) 4 (sVl (G 9) (I 0) p)) J G)) (As := []) (rest := []) hz okYT (c6_goOn l_ D k b I J G p  hL (by omega) hT) (cwV 0 hz.2.2.2.2 gX6_readsPass_X6_goOn rfl rfl rfl (by decide +kernel) ⟨Nat.le_of_ble_eq_true rfl, Nat.le_of_ble_eq_true rfl⟩) hK trivial hP hD hS 0 6 rfl rfl rfl rfl hl.1 rfl (Nat.le_of_ble_eq_true rfl) dX6_readsPass_15 ⟨Nat.zero_le _, Nat.zero_le _⟩ (fun u H locs hp hP hS _ => ?_)
    have hP : va_P D vwCl (mw b k (nset (nset (nset (nset I 1 (sNx (G 9) (I 0) p)) 2 (sEd (G 9) (I 0) (sNx (G 9) (I 0) p) - (sNx (G 9) (I 0) p))) 3 (sKd (G 9) (I 0) (sNx (G 9) (I 0) p))) 4 (sVl (G 9) (I 0) (sNx (G 9) (I 0) p))) J G) H := hP
    have hD := mw_D (I' := nset (nset (nset (nset I 1 (sNx (G 9) (I 0) p)) 2 (sEd (G 9) (I 0) (sNx (G 9) (I 0) p) - (sNx (G 9) (I 0) p))) 3 (sKd (G 9) (I 0) (sNx (G 9) (I 0) p))) 4 (sVl (G 9) (I 0) (sNx (G 9) (I 0) p))) (J' := J) (G' := G) hD
    refine lv_aload_n hz.1 hz.2.1 dX6_readsPass_18 rfl (lv_at hl 0 rfl) ?_
    refine lv_iconst (v := nI 0) hz.1 hz.2.1 dX6_readsPass_19 (by decide) ?_
    refine lv_iconst (v := nI 0) hz.1 hz.2.1 dX6_readsPass_20 (by decide) ?_
    refine lv_bipush (v := nI 59) hz.1 hz.2.1 dX6_readsPass_21 (by decide) ?_
    by_cases hc_23 : sNum (G 9) (I 0) (sNx (G 9) (I 0) p) 0 59
    · refine wrV (A := wA (mw b k (nset (nset (nset (nset I 1 p) 2 (sEd (G 9) (I 0) p - p)) 3 (sKd (G 9) (I 0) p)) 4 (sVl (G 9) (I 0) p)) J G)) (As := [.int (nI 0), .int (nI 0), .int (nI 59)]) (rest := []) hz okYT (c6_takes_yes l_ D k b I J G (sNx (G 9) (I 0) p) 0 0 59 hL (by omega) hT (by omega) (by omega) hc_23) (cwV 3 hz.2.2.2.2 gX6_readsPass_X6_takes rfl rfl rfl (by decide +kernel) ⟨Nat.le_of_ble_eq_true rfl, Nat.le_of_ble_eq_true rfl⟩) hK trivial hP hD hS 0 6 rfl rfl rfl rfl hl.1 rfl (Nat.le_of_ble_eq_true rfl) dX6_readsPass_23 ⟨Nat.zero_le _, Nat.zero_le _⟩ (fun r u H locs hp hP hS _ => ?_)
      obtain rfl : r = bI true := hp
      have hP : va_P D vwCl (mw b k (nset (nset (nset (nset I 1 (sNx (G 9) (I 0) (sNx (G 9) (I 0) p))) 2 (sEd (G 9) (I 0) (sNx (G 9) (I 0) (sNx (G 9) (I 0) p)) - (sNx (G 9) (I 0) (sNx (G 9) (I 0) p)))) 3 (sKd (G 9) (I 0) (sNx (G 9) (I 0) (sNx (G 9) (I 0) p)))) 4 (sVl (G 9) (I 0) (sNx (G 9) (I 0) (sNx (G 9) (I 0) p)))) J (gset G 11 (nset (G 11) 0 (sVl (G 9) (I 0) (sNx (G 9) (I 0) p))))) H := hP
      have hD := mw_D (I' := nset (nset (nset (nset I 1 (sNx (G 9) (I 0) (sNx (G 9) (I 0) p))) 2 (sEd (G 9) (I 0) (sNx (G 9) (I 0) (sNx (G 9) (I 0) p)) - (sNx (G 9) (I 0) (sNx (G 9) (I 0) p)))) 3 (sKd (G 9) (I 0) (sNx (G 9) (I 0) (sNx (G 9) (I 0) p)))) 4 (sVl (G 9) (I 0) (sNx (G 9) (I 0) (sNx (G 9) (I 0) p)))) (J' := J) (G' := gset G 11 (nset (G 11) 0 (sVl (G 9) (I 0) (sNx (G 9) (I 0) p)))) hD
      refine zeq (tgt := 52) hz dX6_readsPass_26 (by decide) (fun c_26 => ?_) (fun c_26 => ?_)
      · exact absurd c_26 (by decide)
      · refine lv_aload_n hz.1 hz.2.1 dX6_readsPass_29 rfl (lv_at hl 0 rfl) ?_
        refine lv_iconst (v := nI 1) hz.1 hz.2.1 dX6_readsPass_30 (by decide) ?_
        refine lv_iconst (v := nI 0) hz.1 hz.2.1 dX6_readsPass_31 (by decide) ?_
        refine lv_aload_n hz.1 hz.2.1 dX6_readsPass_32 rfl (lv_at hl 0 rfl) ?_
        refine rdV (A := wA (mw b k (nset (nset (nset (nset I 1 p) 2 (sEd (G 9) (I 0) p - p)) 3 (sKd (G 9) (I 0) p)) 4 (sVl (G 9) (I 0) p)) J G)) (As := []) (rest := [.int (nI 0), .int (nI 1), .ref (b 0)]) hz okYT (c6_lastWire l_ D k b (nset (nset (nset (nset I 1 (sNx (G 9) (I 0) (sNx (G 9) (I 0) p))) 2 (sEd (G 9) (I 0) (sNx (G 9) (I 0) (sNx (G 9) (I 0) p)) - (sNx (G 9) (I 0) (sNx (G 9) (I 0) p)))) 3 (sKd (G 9) (I 0) (sNx (G 9) (I 0) (sNx (G 9) (I 0) p)))) 4 (sVl (G 9) (I 0) (sNx (G 9) (I 0) (sNx (G 9) (I 0) p)))) J (gset G 11 (nset (G 11) 0 (sVl (G 9) (I 0) (sNx (G 9) (I 0) p)))) (show 2 ≤ G 10 0 by omega)) (cwV 0 hz.2.2.2.2 gX6_readsPass_X6_lastWire rfl rfl rfl (by decide +kernel) ⟨Nat.le_of_ble_eq_true rfl, Nat.le_of_ble_eq_true rfl⟩) hK trivial hP hD hS 0 6 rfl rfl rfl rfl hl.1 rfl (Nat.le_of_ble_eq_true rfl) dX6_readsPass_33 ⟨Nat.zero_le _, Nat.zero_le _⟩ ?_
        by_cases hc_36 : sNum (G 9) (I 0) (sNx (G 9) (I 0) (sNx (G 9) (I 0) p)) 0 (G 10 0 - 2)
        · refine wrV (A := wA (mw b k (nset (nset (nset (nset I 1 p) 2 (sEd (G 9) (I 0) p - p)) 3 (sKd (G 9) (I 0) p)) 4 (sVl (G 9) (I 0) p)) J G)) (As := [.int (nI 1), .int (nI 0), .int (nI (G 10 0 - 2))]) (rest := []) hz okYT (c6_takes_yes l_ D k b I J (gset G 11 (nset (G 11) 0 (sVl (G 9) (I 0) (sNx (G 9) (I 0) p)))) (sNx (G 9) (I 0) (sNx (G 9) (I 0) p)) 1 0 (G 10 0 - 2) hL (by omega) hT (by omega) (by omega) hc_36) (cwV 3 hz.2.2.2.2 gX6_readsPass_X6_takes rfl rfl rfl (by decide +kernel) ⟨Nat.le_of_ble_eq_true rfl, Nat.le_of_ble_eq_true rfl⟩) hK trivial hP hD hS 0 6 rfl rfl rfl rfl hl.1 rfl (Nat.le_of_ble_eq_true rfl) dX6_readsPass_36 ⟨Nat.zero_le _, Nat.zero_le _⟩ (fun r u H locs hp hP hS _ => ?_)
          obtain rfl : r = bI true := hp
          have hP : va_P D vwCl (mw b k (nset (nset (nset (nset I 1 (sNx (G 9) (I 0) (sNx (G 9) (I 0) (sNx (G 9) (I 0) p)))) 2 (sEd (G 9) (I 0) (sNx (G 9) (I 0) (sNx (G 9) (I 0) (sNx (G 9) (I 0) p))) - (sNx (G 9) (I 0) (sNx (G 9) (I 0) (sNx (G 9) (I 0) p))))) 3 (sKd (G 9) (I 0) (sNx (G 9) (I 0) (sNx (G 9) (I 0) (sNx (G 9) (I 0) p))))) 4 (sVl (G 9) (I 0) (sNx (G 9) (I 0) (sNx (G 9) (I 0) (sNx (G 9) (I 0) p))))) J (gset G 11 (nset (nset (G 11) 0 (sVl (G 9) (I 0) (sNx (G 9) (I 0) p))) 1 (sVl (G 9) (I 0) (sNx (G 9) (I 0) (sNx (G 9) (I 0) p)))))) H := hP
          have hD := mw_D (I' := nset (nset (nset (nset I 1 (sNx (G 9) (I 0) (sNx (G 9) (I 0) (sNx (G 9) (I 0) p)))) 2 (sEd (G 9) (I 0) (sNx (G 9) (I 0) (sNx (G 9) (I 0) (sNx (G 9) (I 0) p))) - (sNx (G 9) (I 0) (sNx (G 9) (I 0) (sNx (G 9) (I 0) p))))) 3 (sKd (G 9) (I 0) (sNx (G 9) (I 0) (sNx (G 9) (I 0) (sNx (G 9) (I 0) p))))) 4 (sVl (G 9) (I 0) (sNx (G 9) (I 0) (sNx (G 9) (I 0) (sNx (G 9) (I 0) p))))) (J' := J) (G' := gset G 11 (nset (nset (G 11) 0 (sVl (G 9) (I 0) (sNx (G 9) (I 0) p))) 1 (sVl (G 9) (I 0) (sNx (G 9) (I 0) (sNx (G 9) (I 0) p))))) hD
          refine zeq (tgt := 52) hz dX6_readsPass_39 (by decide) (fun c_39 => ?_) (fun c_39 => ?_)
          · exact absurd c_39 (by decide)
          · refine lv_aload_n hz.1 hz.2.1 dX6_readsPass_42 rfl (lv_at hl 0 rfl) ?_
            refine lv_iconst (v := nI 2) hz.1 hz.2.1 dX6_readsPass_43 (by decide) ?_
            refine lv_iconst (v := nI 0) hz.1 hz.2.1 dX6_readsPass_44 (by decide) ?_
            refine lv_iconst (v := nI 3) hz.1 hz.2.1 dX6_readsPass_45 (by decide) ?_
            by_cases hc_46 : sNum (G 9) (I 0) (sNx (G 9) (I 0) (sNx (G 9) (I 0) (sNx (G 9) (I 0) p))) 0 3
            · refine wrV (A := wA (mw b k (nset (nset (nset (nset I 1 p) 2 (sEd (G 9) (I 0) p - p)) 3 (sKd (G 9) (I 0) p)) 4 (sVl (G 9) (I 0) p)) J G)) (As := [.int (nI 2), .int (nI 0), .int (nI 3)]) (rest := []) hz okYT (c6_takes_yes l_ D k b I J (gset G 11 (nset (nset (G 11) 0 (sVl (G 9) (I 0) (sNx (G 9) (I 0) p))) 1 (sVl (G 9) (I 0) (sNx (G 9) (I 0) (sNx (G 9) (I 0) p))))) (sNx (G 9) (I 0) (sNx (G 9) (I 0) (sNx (G 9) (I 0) p))) 2 0 3 hL (by omega) hT (by omega) (by omega) hc_46) (cwV 3 hz.2.2.2.2 gX6_readsPass_X6_takes rfl rfl rfl (by decide +kernel) ⟨Nat.le_of_ble_eq_true rfl, Nat.le_of_ble_eq_true rfl⟩) hK trivial hP hD hS 0 6 rfl rfl rfl rfl hl.1 rfl (Nat.le_of_ble_eq_true rfl) dX6_readsPass_46 ⟨Nat.zero_le _, Nat.zero_le _⟩ (fun r u H locs hp hP hS _ => ?_)
              obtain rfl : r = bI true := hp
              have hP : va_P D vwCl (mw b k (nset (nset (nset (nset I 1 (sNx (G 9) (I 0) (sNx (G 9) (I 0) (sNx (G 9) (I 0) (sNx (G 9) (I 0) p))))) 2 (sEd (G 9) (I 0) (sNx (G 9) (I 0) (sNx (G 9) (I 0) (sNx (G 9) (I 0) (sNx (G 9) (I 0) p)))) - (sNx (G 9) (I 0) (sNx (G 9) (I 0) (sNx (G 9) (I 0) (sNx (G 9) (I 0) p)))))) 3 (sKd (G 9) (I 0) (sNx (G 9) (I 0) (sNx (G 9) (I 0) (sNx (G 9) (I 0) (sNx (G 9) (I 0) p)))))) 4 (sVl (G 9) (I 0) (sNx (G 9) (I 0) (sNx (G 9) (I 0) (sNx (G 9) (I 0) (sNx (G 9) (I 0) p)))))) J (gset G 11 (nset (nset (nset (G 11) 0 (sVl (G 9) (I 0) (sNx (G 9) (I 0) p))) 1 (sVl (G 9) (I 0) (sNx (G 9) (I 0) (sNx (G 9) (I 0) p)))) 2 (sVl (G 9) (I 0) (sNx (G 9) (I 0) (sNx (G 9) (I 0) (sNx (G 9) (I 0) p))))))) H := hP
              have hD := mw_D (I' := nset (nset (nset (nset I 1 (sNx (G 9) (I 0) (sNx (G 9) (I 0) (sNx (G 9) (I 0) (sNx (G 9) (I 0) p))))) 2 (sEd (G 9) (I 0) (sNx (G 9) (I 0) (sNx (G 9) (I 0) (sNx (G 9) (I 0) (sNx (G 9) (I 0) p)))) - (sNx (G 9) (I 0) (sNx (G 9) (I 0) (sNx (G 9) (I 0) (sNx (G 9) (I 0) p)))))) 3 (sKd (G 9) (I 0) (sNx (G 9) (I 0) (sNx (G 9) (I 0) (sNx (G 9) (I 0) (sNx (G 9) (I 0) p)))))) 4 (sVl (G 9) (I 0) (sNx (G 9) (I 0) (sNx (G 9) (I 0) (sNx (G 9) (I 0) (sNx (G 9) (I 0) p)))))) (J' := J) (G' := gset G 11 (nset (nset (nset (G 11) 0 (sVl (G 9) (I 0) (sNx (G 9) (I 0) p))) 1 (sVl (G 9) (I 0) (sNx (G 9) (I 0) (sNx (G 9) (I 0) p)))) 2 (sVl (G 9) (I 0) (sNx (G 9) (I 0) (sNx (G 9) (I 0) (sNx (G 9) (I 0) p)))))) hD
              refine zne (tgt := 54) hz dX6_readsPass_49 (by decide) (fun c_49 => ?_) (fun c_49 => ?_)
              · refine lv_aload_n hz.1 hz.2.1 dX6_readsPass_54 rfl (lv_at hl 0 rfl) ?_
                refine rg hz hinX6_readsPass hK hP 0 rfl rfl 17 (by decide) (List.mem_of_getElem? (i := 1) rfl) rfl (v := .ref (b 11)) rfl dX6_readsPass_55 ?_
                refine lv_aload_n hz.1 hz.2.1 dX6_readsPass_58 rfl (lv_at hl 0 rfl) ?_
                refine rg hz hinX6_readsPass hK hP 0 rfl rfl 18 (by decide) (List.mem_of_getElem? (i := 2) rfl) rfl (v := .ref (b 12)) rfl dX6_readsPass_59 ?_
                refine lv_iconst (v := nI 0) hz.1 hz.2.1 dX6_readsPass_62 (by decide) ?_
                refine rald hz hK hP 12 0 rfl rfl (i := 0) (by omega) (by decide) (v := nI ((nset (nset (nset (G 11) 0 (sVl (G 9) (I 0) (sNx (G 9) (I 0) p))) 1 (sVl (G 9) (I 0) (sNx (G 9) (I 0) (sNx (G 9) (I 0) p)))) 2 (sVl (G 9) (I 0) (sNx (G 9) (I 0) (sNx (G 9) (I 0) (sNx (G 9) (I 0) p))))) 0)) rfl dX6_readsPass_63 ?_
                refine toe (z := nI (sVl (G 9) (I 0) (sNx (G 9) (I 0) p))) (rfl) ?_
                refine lv_aload_n hz.1 hz.2.1 dX6_readsPass_64 rfl (lv_at hl 0 rfl) ?_
                refine rg hz hinX6_readsPass hK hP 0 rfl rfl 18 (by decide) (List.mem_of_getElem? (i := 2) rfl) rfl (v := .ref (b 12)) rfl dX6_readsPass_65 ?_
                refine lv_iconst (v := nI 1) hz.1 hz.2.1 dX6_readsPass_68 (by decide) ?_
                refine rald hz hK hP 12 0 rfl rfl (i := 1) (by omega) (by decide) (v := nI ((nset (nset (nset (G 11) 0 (sVl (G 9) (I 0) (sNx (G 9) (I 0) p))) 1 (sVl (G 9) (I 0) (sNx (G 9) (I 0) (sNx (G 9) (I 0) p)))) 2 (sVl (G 9) (I 0) (sNx (G 9) (I 0) (sNx (G 9) (I 0) (sNx (G 9) (I 0) p))))) 1)) rfl dX6_readsPass_69 ?_
                refine toe (z := nI (sVl (G 9) (I 0) (sNx (G 9) (I 0) (sNx (G 9) (I 0) p)))) (rfl) ?_
                refine lv_aload_n hz.1 hz.2.1 dX6_readsPass_70 rfl (lv_at hl 0 rfl) ?_
                refine rg hz hinX6_readsPass hK hP 0 rfl rfl 18 (by decide) (List.mem_of_getElem? (i := 2) rfl) rfl (v := .ref (b 12)) rfl dX6_readsPass_71 ?_
                refine lv_iconst (v := nI 2) hz.1 hz.2.1 dX6_readsPass_74 (by decide) ?_
                refine rald hz hK hP 12 0 rfl rfl (i := 2) (by omega) (by decide) (v := nI ((nset (nset (nset (G 11) 0 (sVl (G 9) (I 0) (sNx (G 9) (I 0) p))) 1 (sVl (G 9) (I 0) (sNx (G 9) (I 0) (sNx (G 9) (I 0) p)))) 2 (sVl (G 9) (I 0) (sNx (G 9) (I 0) (sNx (G 9) (I 0) (sNx (G 9) (I 0) p))))) 2)) rfl dX6_readsPass_75 ?_
                refine toe (z := nI (sVl (G 9) (I 0) (sNx (G 9) (I 0) (sNx (G 9) (I 0) (sNx (G 9) (I 0) p))))) (rfl) ?_
                refine wrSv (A := wA (mw b k (nset (nset (nset (nset I 1 p) 2 (sEd (G 9) (I 0) p - p)) 3 (sKd (G 9) (I 0) p)) 4 (sVl (G 9) (I 0) p)) J G)) (As := [.ref (b 11), .int (nI (sVl (G 9) (I 0) (sNx (G 9) (I 0) p))), .int (nI (sVl (G 9) (I 0) (sNx (G 9) (I 0) (sNx (G 9) (I 0) p)))), .int (nI (sVl (G 9) (I 0) (sNx (G 9) (I 0) (sNx (G 9) (I 0) (sNx (G 9) (I 0) p)))))]) (rest := []) hz okYT (c6_layPass_next l_ D k b (nset (nset (nset (nset I 1 (sNx (G 9) (I 0) (sNx (G 9) (I 0) (sNx (G 9) (I 0) (sNx (G 9) (I 0) p))))) 2 (sEd (G 9) (I 0) (sNx (G 9) (I 0) (sNx (G 9) (I 0) (sNx (G 9) (I 0) (sNx (G 9) (I 0) p)))) - (sNx (G 9) (I 0) (sNx (G 9) (I 0) (sNx (G 9) (I 0) (sNx (G 9) (I 0) p)))))) 3 (sKd (G 9) (I 0) (sNx (G 9) (I 0) (sNx (G 9) (I 0) (sNx (G 9) (I 0) (sNx (G 9) (I 0) p)))))) 4 (sVl (G 9) (I 0) (sNx (G 9) (I 0) (sNx (G 9) (I 0) (sNx (G 9) (I 0) (sNx (G 9) (I 0) p)))))) J (gset G 11 (nset (nset (nset (G 11) 0 (sVl (G 9) (I 0) (sNx (G 9) (I 0) p))) 1 (sVl (G 9) (I 0) (sNx (G 9) (I 0) (sNx (G 9) (I 0) p)))) 2 (sVl (G 9) (I 0) (sNx (G 9) (I 0) (sNx (G 9) (I 0) (sNx (G 9) (I 0) p)))))) (sVl (G 9) (I 0) (sNx (G 9) (I 0) p)) (sVl (G 9) (I 0) (sNx (G 9) (I 0) (sNx (G 9) (I 0) p))) (sVl (G 9) (I 0) (sNx (G 9) (I 0) (sNx (G 9) (I 0) (sNx (G 9) (I 0) p)))) (show G 10 32 < 8 by omega)) (va_cwS 4 hz.2.2.2.2 gX6_readsPass_X6_layPass rfl rfl rfl (by decide +kernel) ⟨Nat.le_of_ble_eq_true rfl, Nat.le_of_ble_eq_true rfl⟩) hK trivial hP hD hS rfl hl.1 rfl (Nat.le_of_ble_eq_true rfl) dX6_readsPass_76 ⟨Nat.zero_le _, Nat.zero_le _⟩ (fun u H locs hp hP hS _ => ?_)
                have hP : va_P D vwCl (mw b k (nset (nset (nset (nset I 1 (sNx (G 9) (I 0) (sNx (G 9) (I 0) (sNx (G 9) (I 0) (sNx (G 9) (I 0) p))))) 2 (sEd (G 9) (I 0) (sNx (G 9) (I 0) (sNx (G 9) (I 0) (sNx (G 9) (I 0) (sNx (G 9) (I 0) p)))) - (sNx (G 9) (I 0) (sNx (G 9) (I 0) (sNx (G 9) (I 0) (sNx (G 9) (I 0) p)))))) 3 (sKd (G 9) (I 0) (sNx (G 9) (I 0) (sNx (G 9) (I 0) (sNx (G 9) (I 0) (sNx (G 9) (I 0) p)))))) 4 (sVl (G 9) (I 0) (sNx (G 9) (I 0) (sNx (G 9) (I 0) (sNx (G 9) (I 0) (sNx (G 9) (I 0) p)))))) J (gset (gset G 10 (sAddPass (G 10) (sVl (G 9) (I 0) (sNx (G 9) (I 0) p)) (sVl (G 9) (I 0) (sNx (G 9) (I 0) (sNx (G 9) (I 0) p))) (sVl (G 9) (I 0) (sNx (G 9) (I 0) (sNx (G 9) (I 0) (sNx (G 9) (I 0) p)))))) 11 (nset (nset (nset (G 11) 0 (sVl (G 9) (I 0) (sNx (G 9) (I 0) p))) 1 (sVl (G 9) (I 0) (sNx (G 9) (I 0) (sNx (G 9) (I 0) p)))) 2 (sVl (G 9) (I 0) (sNx (G 9) (I 0) (sNx (G 9) (I 0) (sNx (G 9) (I 0) p))))))) H := hP
                have hD := mw_D (I' := nset (nset (nset (nset I 1 (sNx (G 9) (I 0) (sNx (G 9) (I 0) (sNx (G 9) (I 0) (sNx (G 9) (I 0) p))))) 2 (sEd (G 9) (I 0) (sNx (G 9) (I 0) (sNx (G 9) (I 0) (sNx (G 9) (I 0) (sNx (G 9) (I 0) p)))) - (sNx (G 9) (I 0) (sNx (G 9) (I 0) (sNx (G 9) (I 0) (sNx (G 9) (I 0) p)))))) 3 (sKd (G 9) (I 0) (sNx (G 9) (I 0) (sNx (G 9) (I 0) (sNx (G 9) (I 0) (sNx (G 9) (I 0) p)))))) 4 (sVl (G 9) (I 0) (sNx (G 9) (I 0) (sNx (G 9) (I 0) (sNx (G 9) (I 0) (sNx (G 9) (I 0) p)))))) (J' := J) (G' := gset (gset G 10 (sAddPass (G 10) (sVl (G 9) (I 0) (sNx (G 9) (I 0) p)) (sVl (G 9) (I 0) (sNx (G 9) (I 0) (sNx (G 9) (I 0) p))) (sVl (G 9) (I 0) (sNx (G 9) (I 0) (sNx (G 9) (I 0) (sNx (G 9) (I 0) p)))))) 11 (nset (nset (nset (G 11) 0 (sVl (G 9) (I 0) (sNx (G 9) (I 0) p))) 1 (sVl (G 9) (I 0) (sNx (G 9) (I 0) (sNx (G 9) (I 0) p)))) 2 (sVl (G 9) (I 0) (sNx (G 9) (I 0) (sNx (G 9) (I 0) (sNx (G 9) (I 0) p)))))) hD
                refine lv_iconst (v := nI 1) hz.1 hz.2.1 dX6_readsPass_79 (by decide) ?_
                have eR : sRP (G 9) (I 0) p (G 10) = (true, sNx (G 9) (I 0) (sNx (G 9) (I 0) (sNx (G 9) (I 0) (sNx (G 9) (I 0) p))), sAddPass (G 10) (sVl (G 9) (I 0) (sNx (G 9) (I 0) p)) (sVl (G 9) (I 0) (sNx (G 9) (I 0) (sNx (G 9) (I 0) p))) (sVl (G 9) (I 0) (sNx (G 9) (I 0) (sNx (G 9) (I 0) (sNx (G 9) (I 0) p))))) := by rw [sRP, if_neg c_9, if_pos hc_23, if_pos hc_36, if_pos hc_46]
                have hP : va_P D vwCl (mw b k (nset (nset (nset (nset I 1 ((sRP (G 9) (I 0) p (G 10)).2.1)) 2 (sEd (G 9) (I 0) ((sRP (G 9) (I 0) p (G 10)).2.1) - ((sRP (G 9) (I 0) p (G 10)).2.1))) 3 (sKd (G 9) (I 0) ((sRP (G 9) (I 0) p (G 10)).2.1))) 4 (sVl (G 9) (I 0) ((sRP (G 9) (I 0) p (G 10)).2.1))) J (gset (gset G 10 (sAddPass (G 10) (sVl (G 9) (I 0) (sNx (G 9) (I 0) p)) (sVl (G 9) (I 0) (sNx (G 9) (I 0) (sNx (G 9) (I 0) p))) (sVl (G 9) (I 0) (sNx (G 9) (I 0) (sNx (G 9) (I 0) (sNx (G 9) (I 0) p)))))) 11 (nset (nset (nset (G 11) 0 (sVl (G 9) (I 0) (sNx (G 9) (I 0) p))) 1 (sVl (G 9) (I 0) (sNx (G 9) (I 0) (sNx (G 9) (I 0) p)))) 2 (sVl (G 9) (I 0) (sNx (G 9) (I 0) (sNx (G 9) (I 0) (sNx (G 9) (I 0) p))))))) H := by rw [eR]; exact hP
                exact wr_zret hz hr hlk dX6_readsPass_80 hS (show nI 1 = bI true from rfl) ((sAddPass (G 10) (sVl (G 9) (I 0) (sNx (G 9) (I 0) p)) (sVl (G 9) (I 0) (sNx (G 9) (I 0) (sNx (G 9) (I 0) p))) (sVl (G 9) (I 0) (sNx (G 9) (I 0) (sNx (G 9) (I 0) (sNx (G 9) (I 0) p)))), nset (nset (nset (G 11) 0 (sVl (G 9) (I 0) (sNx (G 9) (I 0) p))) 1 (sVl (G 9) (I 0) (sNx (G 9) (I 0) (sNx (G 9) (I 0) p)))) 2 (sVl (G 9) (I 0) (sNx (G 9) (I 0) (sNx (G 9) (I 0) (sNx (G 9) (I 0) p)))))) hP (⟨by rw [eR], fun _ => by first | (rw [eR]; done) | (rw [eR]; rfl)⟩)
              · exact absurd c_49 (by decide)
            · refine rdV (A := wA (mw b k (nset (nset (nset (nset I 1 p) 2 (sEd (G 9) (I 0) p - p)) 3 (sKd (G 9) (I 0) p)) 4 (sVl (G 9) (I 0) p)) J G)) (As := [.int (nI 2), .int (nI 0), .int (nI 3)]) (rest := []) hz okYT (c6_takes_no l_ D k b I J (gset G 11 (nset (nset (G 11) 0 (sVl (G 9) (I 0) (sNx (G 9) (I 0) p))) 1 (sVl (G 9) (I 0) (sNx (G 9) (I 0) (sNx (G 9) (I 0) p))))) (sNx (G 9) (I 0) (sNx (G 9) (I 0) (sNx (G 9) (I 0) p))) 2 0 3 hL (by omega) hT (by omega) (by omega) (by omega) hc_46) (cwV 3 hz.2.2.2.2 gX6_readsPass_X6_takes rfl rfl rfl (by decide +kernel) ⟨Nat.le_of_ble_eq_true rfl, Nat.le_of_ble_eq_true rfl⟩) hK trivial hP hD hS 0 6 rfl rfl rfl rfl hl.1 rfl (Nat.le_of_ble_eq_true rfl) dX6_readsPass_46 ⟨Nat.zero_le _, Nat.zero_le _⟩ ?_
              refine zne (tgt := 54) hz dX6_readsPass_49 (by decide) (fun c_49 => ?_) (fun c_49 => ?_)
              · exact absurd c_49 (by decide)
              · refine lv_iconst (v := nI 0) hz.1 hz.2.1 dX6_readsPass_52 (by decide) ?_
                have eR : sRP (G 9) (I 0) p (G 10) = (false, sNx (G 9) (I 0) (sNx (G 9) (I 0) (sNx (G 9) (I 0) p)), G 10) := by rw [sRP, if_neg c_9, if_pos hc_23, if_pos hc_36, if_neg hc_46]
                have hP : va_P D vwCl (mw b k (nset (nset (nset (nset I 1 ((sRP (G 9) (I 0) p (G 10)).2.1)) 2 (sEd (G 9) (I 0) ((sRP (G 9) (I 0) p (G 10)).2.1) - ((sRP (G 9) (I 0) p (G 10)).2.1))) 3 (sKd (G 9) (I 0) ((sRP (G 9) (I 0) p (G 10)).2.1))) 4 (sVl (G 9) (I 0) ((sRP (G 9) (I 0) p (G 10)).2.1))) J (gset (gset G 10 (G 10)) 11 (nset (nset (G 11) 0 (sVl (G 9) (I 0) (sNx (G 9) (I 0) p))) 1 (sVl (G 9) (I 0) (sNx (G 9) (I 0) (sNx (G 9) (I 0) p)))))) H := by rw [eR]; exact hP
                exact wr_zret hz hr hlk dX6_readsPass_53 hS (show nI 0 = bI false from rfl) ((G 10, nset (nset (G 11) 0 (sVl (G 9) (I 0) (sNx (G 9) (I 0) p))) 1 (sVl (G 9) (I 0) (sNx (G 9) (I 0) (sNx (G 9) (I 0) p))))) hP (⟨by rw [eR], fun q => by rw [eR] at q; cases q⟩)
        · refine rdV (A := wA (mw b k (nset (nset (nset (nset I 1 p) 2 (sEd (G 9) (I 0) p - p)) 3 (sKd (G 9) (I 0) p)) 4 (sVl (G 9) (I 0) p)) J G)) (As := [.int (nI 1), .int (nI 0), .int (nI (G 10 0 - 2))]) (rest := []) hz okYT (c6_takes_no l_ D k b I J (gset G 11 (nset (G 11) 0 (sVl (G 9) (I 0) (sNx (G 9) (I 0) p)))) (sNx (G 9) (I 0) (sNx (G 9) (I 0) p)) 1 0 (G 10 0 - 2) hL (by omega) hT (by omega) (by omega) (by omega) hc_36) (cwV 3 hz.2.2.2.2 gX6_readsPass_X6_takes rfl rfl rfl (by decide +kernel) ⟨Nat.le_of_ble_eq_true rfl, Nat.le_of_ble_eq_true rfl⟩) hK trivial hP hD hS 0 6 rfl rfl rfl rfl hl.1 rfl (Nat.le_of_ble_eq_true rfl) dX6_readsPass_36 ⟨Nat.zero_le _, Nat.zero_le _⟩ ?_
          refine zeq (tgt := 52) hz dX6_readsPass_39 (by decide) (fun c_39 => ?_) (fun c_39 => ?_)
          · refine lv_iconst (v := nI 0) hz.1 hz.2.1 dX6_readsPass_52 (by decide) ?_
            have eR : sRP (G 9) (I 0) p (G 10) = (false, sNx (G 9) (I 0) (sNx (G 9) (I 0) p), G 10) := by rw [sRP, if_neg c_9, if_pos hc_23, if_neg hc_36]
            have hP : va_P D vwCl (mw b k (nset (nset (nset (nset I 1 ((sRP (G 9) (I 0) p (G 10)).2.1)) 2 (sEd (G 9) (I 0) ((sRP (G 9) (I 0) p (G 10)).2.1) - ((sRP (G 9) (I 0) p (G 10)).2.1))) 3 (sKd (G 9) (I 0) ((sRP (G 9) (I 0) p (G 10)).2.1))) 4 (sVl (G 9) (I 0) ((sRP (G 9) (I 0) p (G 10)).2.1))) J (gset (gset G 10 (G 10)) 11 (nset (G 11) 0 (sVl (G 9) (I 0) (sNx (G 9) (I 0) p))))) H := by rw [eR]; exact hP
            exact wr_zret hz hr hlk dX6_readsPass_53 hS (show nI 0 = bI false from rfl) ((G 10, nset (G 11) 0 (sVl (G 9) (I 0) (sNx (G 9) (I 0) p)))) hP (⟨by rw [eR], fun q => by rw [eR] at q; cases q⟩)
          · exact absurd c_39 (by decide)
    · refine rdV (A := wA (mw b k (nset (nset (nset (nset I 1 p) 2 (sEd (G 9) (I 0) p - p)) 3 (sKd (G 9) (I 0) p)) 4 (sVl (G 9) (I 0) p)) J G)) (As := [.int (nI 0), .int (nI 0), .int (nI 59)]) (rest := []) hz okYT (c6_takes_no l_ D k b I J G (sNx (G 9) (I 0) p) 0 0 59 hL (by omega) hT (by omega) (by omega) (by omega) hc_23) (cwV 3 hz.2.2.2.2 gX6_readsPass_X6_takes rfl rfl rfl (by decide +kernel) ⟨Nat.le_of_ble_eq_true rfl, Nat.le_of_ble_eq_true rfl⟩) hK trivial hP hD hS 0 6 rfl rfl rfl rfl hl.1 rfl (Nat.le_of_ble_eq_true rfl) dX6_readsPass_23 ⟨Nat.zero_le _, Nat.zero_le _⟩ ?_
      refine zeq (tgt := 52) hz dX6_readsPass_26 (by decide) (fun c_26 => ?_) (fun c_26 => ?_)
      · refine lv_iconst (v := nI 0) hz.1 hz.2.1 dX6_readsPass_52 (by decide) ?_
        have eR : sRP (G 9) (I 0) p (G 10) = (false, sNx (G 9) (I 0) p, G 10) := by rw [sRP, if_neg c_9, if_neg hc_23]
        have hP : va_P D vwCl (mw b k (nset (nset (nset (nset I 1 ((sRP (G 9) (I 0) p (G 10)).2.1)) 2 (sEd (G 9) (I 0) ((sRP (G 9) (I 0) p (G 10)).2.1) - ((sRP (G 9) (I 0) p (G 10)).2.1))) 3 (sKd (G 9) (I 0) ((sRP (G 9) (I 0) p (G 10)).2.1))) 4 (sVl (G 9) (I 0) ((sRP (G 9) (I 0) p (G 10)).2.1))) J (gset (gset G 10 (G 10)) 11 (G 11))) H := by rw [eR]; exact hP
        exact wr_zret hz hr hlk dX6_readsPass_53 hS (show nI 0 = bI false from rfl) ((G 10, G 11)) hP (⟨by rw [eR], fun q => by rw [eR] at q; cases q⟩)
      · exact absurd c_26 (by decide)
  · refine lv_iconst (v := nI 0) hz.1 hz.2.1 dX6_readsPass_12 (by decide) ?_
    have eR : sRP (G 9) (I 0) p (G 10) = (false, p, G 10) := by rw [sRP, if_pos c_9]
    have hP : va_P D vwCl (mw b k (nset (nset (nset (nset I 1 ((sRP (G 9) (I 0) p (G 10)).2.1)) 2 (sEd (G 9) (I 0) ((sRP (G 9) (I 0) p (G 10)).2.1) - ((sRP (G 9) (I 0) p (G 10)).2.1))) 3 (sKd (G 9) (I 0) ((sRP (G 9) (I 0) p (G 10)).2.1))) 4 (sVl (G 9) (I 0) ((sRP (G 9) (I 0) p (G 10)).2.1))) J (gset (gset G 10 (G 10)) 11 (G 11))) s_.heap := by rw [eR]; exact hP
    exact wr_zret hz hr hlk dX6_readsPass_13 hS (show nI 0 = bI false from rfl) ((G 10, G 11)) hP (⟨by rw [eR], fun q => by rw [eR] at q; cases q⟩)
