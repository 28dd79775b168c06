theorem hinX5_retune_X5 : ∀ w ∈ wsX50, w ∈ wsX5_retune := fun _ h => List.mem_cons_of_mem _ (List.mem_append_left _ (List.mem_append_left _ (List.mem_append_right _ h)))
theorem hinX5_retune_X3 : ∀ w ∈ wsX30, w ∈ wsX5_retune := fun _ h => List.mem_cons_of_mem _ (List.mem_append_left _ (List.mem_append_right _ h))
theorem hinX5_retune_X0 : ∀ w ∈ wsX00, w ∈ wsX5_retune := fun _ h => List.mem_cons_of_mem _ (List.mem_append_right _ h)
set_option maxHeartbeats 4000000 in
set_option maxRecDepth 100000 in
theorem c5_retune (l_ : Launch) (D : va_G) (k : Nat → ClassId) (a : Nat → Nat) (tS : Nat) (sk sv : Nat → Nat) (C : Nat → Nat) (F : Nat → Nat) (E : Nat → Nat → Nat) (Y : Nat → Nat) (Nt : Nat → Nat) (Sl : Nat → Nat) (Mt : Nat → Nat) (Ch : Nat → Nat → Nat) (M : Nat → Nat)  (hR : Rb M F E) (hf : Wf M) (hT : tOK Nt Sl Ch) : Met l_ yX5_retune wsX5_retune ({ frames := 12, cells := 0, slots := 0, locals := 313 }) (va_Pc [.ref (a 0)] (wH (Am tS sk sv) D k (ho a C ++ (bw a 1 k F E ++ (tu a k Y Nt Sl Mt Ch))))) (va_Qi (fun (r : Int32) (u : Nat → Nat → Nat) => r = oI (sRet M) ∧ ∀ i v, u i v < 4096) (fun (u : Nat → Nat → Nat) (t_ : State) => va_P D vwCl ((fun (u : Nat → Nat → Nat) => ho a C ++ (bw a 1 k F E ++ (tu a k (nset Y 0 (kSg M (M 0 - 1))) (ccpy Nt (kNb M) (M 0 - 1)) (ccpy Sl (kSk M) (M 0 - 1)) (ccpy Mt (kMts M) (M 0 - 1)) u))) u) t_.heap) (wA (ho a C ++ (bw a 1 k F E ++ (tu a k Y Nt Sl Mt Ch))))) 0 0 (wA (ho a C ++ (bw a 1 k F E ++ (tu a k Y Nt Sl Mt Ch)))) := by
  refine my_entry (cc := cX5_retune) (maxL := 1) (ret := some .int) (by decide) rfl (Nat.le_of_ble_eq_true rfl) ?_
  intro p_ e_ s_ m_ bl_ me_ c_ hz hr hlk hB ls hl
  obtain ⟨hP, hK, hD0, hy⟩ := hB
  have hD := wA.self hD0
  have hS : va_S (wA (ho a C ++ (bw a 1 k F E ++ (tu a k Y Nt Sl Mt Ch)))) s_.heap s_.heap [] := va_S.rf
  have hl : lv_has ls 1 [(0, .ref (a 0))] := hl
  have f0 := hf.n2
  have f1 := hf.n9
  have f2 := hf.fr
  have f3 := hf.gd
  have f4 := hf.pc
  have f5 := hf.wc
  have e0 : F 0 = M 0 := hR.1.1
  have e1 : F 1 = M 1 := hR.1.2.1
  have e2 : F 2 = M 2 := hR.1.2.2.1
  have e3 : F 3 = M 19 := hR.1.2.2.2.1
  have e4 : F 4 = M 32 := hR.1.2.2.2.2
  refine lv_aload_n hz.1 hz.2.1 dX5_retune_0 rfl (lv_at hl 0 rfl) ?_
  refine rg (T := TX5) (N := 11) hz hinX5_retune_X5 hK hP 0 rfl rfl 6 (by decide) (List.mem_of_getElem? (i := 1) rfl) rfl (v := .ref (a 39)) rfl dX5_retune_1 ?_
  refine lv_aload_n hz.1 hz.2.1 dX5_retune_4 rfl (lv_at hl 0 rfl) ?_
  refine rg (T := TX5) (N := 11) hz hinX5_retune_X5 hK hP 0 rfl rfl 0 (by decide) (List.mem_of_getElem? (i := 2) rfl) rfl (v := .ref (a 1)) rfl dX5_retune_5 ?_
  refine wrV (A := wA (ho a C ++ (bw a 1 k F E ++ (tu a k Y Nt Sl Mt Ch)))) (As := [.ref (a 1)]) (rest := []) hz (okAm tS sk sv) (c3_fewestWires l_ D k a tS sk sv Y Nt Sl Mt Ch F E M hR hf hT) (cwV 1 hz.2.2.2.2 gX5_retune_X3_fewestWires rfl rfl rfl (by decide +kernel) ⟨Nat.le_of_ble_eq_true rfl, Nat.le_of_ble_eq_true rfl⟩) hK hy (hP.sub (ws' := tu a k Y Nt Sl Mt Ch ++ (bw a 1 k F E)) [9, 10, 11, 12, 13, 14, 15, 16, 17, 18, 19, 20, 21, 22, 1, 2, 3, 4, 5, 6, 7, 8] rfl) (hD.sub (ws' := tu a k Y Nt Sl Mt Ch ++ (bw a 1 k F E)) [9, 10, 11, 12, 13, 14, 15, 16, 17, 18, 19, 20, 21, 22, 1, 2, 3, 4, 5, 6, 7, 8] (by decide) rfl) hS 0 3 rfl rfl rfl rfl hl.1 rfl (Nat.le_of_ble_eq_true rfl) dX5_retune_8 ⟨Nat.zero_le _, Nat.zero_le _⟩ (fun r u H1 locs hp hP1 hS hfr => ?_)
  obtain ⟨U1, hren_⟩ : ∃ z_, z_ = u := ⟨u, rfl⟩
  subst hren_
  obtain ⟨g1, g3⟩ := hp
  obtain rfl : r = oI (sRet M) := g1
  have hP1 : va_P D vwCl (tu a k (nset Y 0 (kSg M (M 0 - 1))) (ccpy Nt (kNb M) (M 0 - 1)) (ccpy Sl (kSk M) (M 0 - 1)) (ccpy Mt (kMts M) (M 0 - 1)) U1 ++ (bw a 1 k F E)) H1 := hP1
  have hPh : va_P D vwCl (ho a C) H1 := keepP (ws := ho a C ++ (bw a 1 k F E ++ (tu a k Y Nt Sl Mt Ch))) (wc := tu a k Y Nt Sl Mt Ch ++ (bw a 1 k F E)) hP hD [9, 10, 11, 12, 13, 14, 15, 16, 17, 18, 19, 20, 21, 22, 1, 2, 3, 4, 5, 6, 7, 8] [0] rfl rfl (by decide) hfr
  have hP : va_P D vwCl (ho a C ++ (bw a 1 k F E ++ (tu a k (nset Y 0 (kSg M (M 0 - 1))) (ccpy Nt (kNb M) (M 0 - 1)) (ccpy Sl (kSk M) (M 0 - 1)) (ccpy Mt (kMts M) (M 0 - 1)) U1))) H1 := hPh.app (hP1.right.app hP1.left)
  generalize H1 = H at hP hS ⊢
  have hD : va_D (wA (ho a C ++ (bw a 1 k F E ++ (tu a k Y Nt Sl Mt Ch)))) (ho a C ++ (bw a 1 k F E ++ (tu a k (nset Y 0 (kSg M (M 0 - 1))) (ccpy Nt (kNb M) (M 0 - 1)) (ccpy Sl (kSk M) (M 0 - 1)) (ccpy Mt (kMts M) (M 0 - 1)) U1))) := hD.same rfl
  exact wr_iret hz hr hlk dX5_retune_11 hS U1 hP (⟨rfl, g3⟩)
