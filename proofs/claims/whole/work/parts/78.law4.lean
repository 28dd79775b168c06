set_option maxHeartbeats 4000000 in
set_option maxRecDepth 100000 in
theorem law_surest {p_ : Program} {l_ : Launch} {e_ : Env} {s_ : State} {m_ : MethodId} {bl_ : List Frame} {me_ : Method} {c_ : Code} {D : va_G} {k : Nat → ClassId} {a b : Nat → Nat} {b0 L : Nat} {xs : Nat → Int32} {tS : Nat} {sk sv : Nat → Nat} {i : Nat} (E0 : LE p_ s_ m_ c_ D k a b b0 L xs tS sk sv) (hi : i + 6 ≤ L) (hk : LK p_ l_ e_ s_ m_ bl_ me_ c_ D k a b b0 i 1063) : LK p_ l_ e_ s_ m_ bl_ me_ c_ D k a b b0 i 811 := by
  obtain ⟨hz, hX, hbl, hK, hy, ha, hbk, hab, hL⟩ := E0
  have hba : ∀ i j, i < 13 → j < 54 → b i ≠ a j := fun i j h1 h2 q => hab j i h2 h1 q.symm
  intro H locs hI hS ls hl
  obtain ⟨C, F, E, Fd, Ed, Fp, Ep, Fq, Eg, K, X, T, Z, S, Rr, Y, Nt, Sl, Mt, Ch, Q, I, J, G, ⟨hB, hC, hT, hQ, hM, hU⟩, ⟨p0, p1, p2, p3, p4, p5, p6, p7, p8, p9, p10⟩, pm⟩ := id hI
  obtain ⟨eX, hI2, rfl, hTb⟩ := hT
  have hT : LT X (G 9) I (G 9) := ⟨eX, hI2, rfl, hTb⟩
  have f0 := hB.1.n2
  have f1 := hB.1.n9
  have f4 := hB.1.pc
  have f5 := hB.1.wc
  obtain ⟨x1, hx1⟩ : ∃ z, xs (i + 1) = z := ⟨_, rfl⟩
  obtain ⟨x2, hx2⟩ : ∃ z, xs (i + 2) = z := ⟨_, rfl⟩
  cases hb : (wIn x1 1 (G 0 0) && wIn x2 0 3)
  · refine lv_aload_n hz.1 hz.2.1 dL_law_811 rfl (lv_at hl 1 rfl) ?_
    refine lfe (n := 1) hz hX hbl hS hl (by omega) hL hx1 (by decide) dL_law_812 dL_law_813 dL_law_814 dL_law_815 dL_law_816 ?_
    refine lfe (n := 2) hz hX hbl hS hl (by omega) hL hx2 (by decide) dL_law_817 dL_law_818 dL_law_819 dL_law_820 dL_law_821 ?_
    refine wrV (A := lA s_) (As := [.int x1, .int x2]) (rest := []) hz (okAm tS sk sv) (c5_surest_bad l_ D k a tS sk sv C F E ((G 0)) x1 x2 hB.2 hB.1 hb) (cwV 2 hz.2.2.2.2 gL_law_X5_surest rfl rfl rfl (by decide +kernel) ⟨Nat.le_of_ble_eq_true rfl, Nat.le_of_ble_eq_true rfl⟩) hK hy (p0.app p1) (D_ix ha [0, 1, 2, 3, 4, 5, 6, 7, 8] rfl (by decide) (by decide)) hS 0 5 rfl rfl rfl rfl hl.1 rfl (Nat.le_of_ble_eq_true rfl) dL_law_822 ⟨Nat.le_of_ble_eq_true rfl, Nat.le_of_ble_eq_true rfl⟩ (fun r u H1 locs hp hP1 hS hfr => ?_)
    obtain rfl : r = -2 := hp
    have p0 := hP1.left
    have hP1 := hP1.right
    have p1 := hP1
    have kp : ∀ (g_ : va_W) (jx : List Nat), g_.map (fun q => q.1) = jx.map a → (∀ j ∈ jx, j < 54) → (∀ j ∈ jx, j ∉ ([0, 1, 2, 3, 4, 5, 6, 7, 8] : List Nat)) → va_P D vwCl g_ H → va_P D vwCl g_ H1 := fun g_ jx h1 h2 h3 h4 => keepG (wc := ho a C ++ (bw a 1 k F E)) ha [0, 1, 2, 3, 4, 5, 6, 7, 8] jx rfl h1 (by decide) h2 h3 h4 hfr
    have p2 := kp _ [9, 10, 11, 12, 13, 14, 15, 16] rfl (by decide) (by decide) p2
    have p3 := kp _ [17] rfl (by decide) (by decide) p3
    have p4 := kp _ [18, 19, 20, 21, 22, 23, 24, 25] rfl (by decide) (by decide) p4
    have p5 := kp _ [26, 27, 28, 29, 30, 31, 32, 33] rfl (by decide) (by decide) p5
    have p6 := kp _ [34] rfl (by decide) (by decide) p6
    have p7 := kp _ [35, 36] rfl (by decide) (by decide) p7
    have p8 := kp _ [37, 38] rfl (by decide) (by decide) p8
    have p9 := kp _ [39, 40, 41, 42, 43, 44, 45, 46, 47, 48, 49, 50, 51, 52] rfl (by decide) (by decide) p9
    have p10 := kp _ [53] rfl (by decide) (by decide) p10
    have pm := keepX (wc := ho a C ++ (bw a 1 k F E)) (g := mw b k I J G) hab [0, 1, 2, 3, 4, 5, 6, 7, 8] [0, 1, 2, 3, 4, 5, 6, 7, 8, 9, 10, 11, 12] rfl rfl (by decide) (by decide) pm hfr
    refine lv_aload_n hz.1 hz.2.1 dL_law_825 rfl (lv_at hl 2 rfl) ?_
    refine lfe (n := 1) hz hX hbl hS hl (by omega) hL hx1 (by decide) dL_law_826 dL_law_827 dL_law_828 dL_law_829 dL_law_830 ?_
    refine lfe (n := 2) hz hX hbl hS hl (by omega) hL hx2 (by decide) dL_law_831 dL_law_832 dL_law_833 dL_law_834 dL_law_835 ?_
    refine wrV (A := lA s_) (As := [.int x1, .int x2]) (rest := [.int (-2)]) hz okYT (c6_surest_bad l_ D k b I J G x1 x2 hB.1 hb) (cwV 2 hz.2.2.2.2 gL_law_X6_surest rfl rfl rfl (by decide +kernel) ⟨Nat.le_of_ble_eq_true rfl, Nat.le_of_ble_eq_true rfl⟩) hK trivial pm (D_ix hbk [0, 1, 2, 3, 4, 5, 6, 7, 8, 9, 10, 11, 12] rfl (by decide) (by decide)) hS 0 6 rfl rfl rfl rfl hl.1 rfl (Nat.le_of_ble_eq_true rfl) dL_law_836 ⟨Nat.le_of_ble_eq_true rfl, Nat.le_of_ble_eq_true rfl⟩ (fun r u H1 locs hp hP1 hS hfr => ?_)
    obtain rfl : r = -2 := hp
    have pm := hP1
    have pc_ : CPs D k a (nset C 0 (C 0 + 1)) F E Fd Ed Fp Ep Fq Eg K X ((G 9)) Z S Rr Y Nt Sl Mt Ch Q H1 := CPs.kept ⟨p0, p1, p2, p3, p4, p5, p6, p7, p8, p9, p10⟩ hba hfr
    obtain ⟨p0, p1, p2, p3, p4, p5, p6, p7, p8, p9, p10⟩ := pc_
    refine cmpE (tgt := 1063) hz (rfl) dL_law_839 (by decide) ?_
    exact hk _ _ ⟨nset C 0 (C 0 + 1), F, E, Fd, Ed, Fp, Ep, Fq, Eg, K, X, (G 9), Z, S, Rr, Y, Nt, Sl, Mt, Ch, Q, I, J, gset G 3 (sRef (G 3) 0), ⟨hB, hC.s0, hT, hQ, hM, hU⟩, ⟨p0, p1, p2, p3, p4, p5, p6, p7, p8, p9, p10⟩, pm⟩ hS ls hl
  · simp only [Bool.and_eq_true] at hb
    obtain ⟨hb1, hb2⟩ := hb
    obtain ⟨kk, ⟨kkl, kkh⟩, rfl⟩ := wIn_t (by omega) (by omega) hb1
    obtain ⟨stp, ⟨stpl, stph⟩, rfl⟩ := wIn_t (by omega) (by omega) hb2
    cases hs : (sSu (sSuF (G 0) kk stp) (G 0 0 - 1)).1
    · refine lv_aload_n hz.1 hz.2.1 dL_law_811 rfl (lv_at hl 1 rfl) ?_
      refine lfe (n := 1) hz hX hbl hS hl (by omega) hL hx1 (by decide) dL_law_812 dL_law_813 dL_law_814 dL_law_815 dL_law_816 ?_
      refine lfe (n := 2) hz hX hbl hS hl (by omega) hL hx2 (by decide) dL_law_817 dL_law_818 dL_law_819 dL_law_820 dL_law_821 ?_
      refine rdV (A := lA s_) (As := [.int (nI kk), .int (nI stp)]) (rest := []) hz (okAm tS sk sv) (c5_surest_none l_ D k a tS sk sv C F E ((G 0)) kk stp hB.2 hB.1 kkl kkh stph hs) (cwV 2 hz.2.2.2.2 gL_law_X5_surest rfl rfl rfl (by decide +kernel) ⟨Nat.le_of_ble_eq_true rfl, Nat.le_of_ble_eq_true rfl⟩) hK hy (p0.app p1) (D_ix ha [0, 1, 2, 3, 4, 5, 6, 7, 8] rfl (by decide) (by decide)) hS 0 5 rfl rfl rfl rfl hl.1 rfl (Nat.le_of_ble_eq_true rfl) dL_law_822 ⟨Nat.le_of_ble_eq_true rfl, Nat.le_of_ble_eq_true rfl⟩ ?_
      refine lv_aload_n hz.1 hz.2.1 dL_law_825 rfl (lv_at hl 2 rfl) ?_
      refine lfe (n := 1) hz hX hbl hS hl (by omega) hL hx1 (by decide) dL_law_826 dL_law_827 dL_law_828 dL_law_829 dL_law_830 ?_
      refine lfe (n := 2) hz hX hbl hS hl (by omega) hL hx2 (by decide) dL_law_831 dL_law_832 dL_law_833 dL_law_834 dL_law_835 ?_
      refine rdV (A := lA s_) (As := [.int (nI kk), .int (nI stp)]) (rest := [.int (-1)]) hz okYT (c6_surest_none l_ D k b I J G kk stp hB.1 kkl kkh stph hs) (cwV 2 hz.2.2.2.2 gL_law_X6_surest rfl rfl rfl (by decide +kernel) ⟨Nat.le_of_ble_eq_true rfl, Nat.le_of_ble_eq_true rfl⟩) hK trivial pm (D_ix hbk [0, 1, 2, 3, 4, 5, 6, 7, 8, 9, 10, 11, 12] rfl (by decide) (by decide)) hS 0 6 rfl rfl rfl rfl hl.1 rfl (Nat.le_of_ble_eq_true rfl) dL_law_836 ⟨Nat.le_of_ble_eq_true rfl, Nat.le_of_ble_eq_true rfl⟩ ?_
      refine cmpE (tgt := 1063) hz (rfl) dL_law_839 (by decide) ?_
      exact hk H locs hI hS ls hl
    · rename_i jj
      obtain ⟨i1, i2, dd, i3⟩ := sSu_ix (f := sSuF (G 0) kk stp) (G 0 0 - 1) jj hs
      have hbs : sSu (sSuF (G 0) kk stp) (G 0 0 - 1) = (some jj, some dd) := Prod.ext hs i3
      have hdd : dd < 1000 := sSu_lt (fun w j hj => sSuF_lt hB.1 (by omega) hj) (G 0 0 - 1) dd i3
      refine lv_aload_n hz.1 hz.2.1 dL_law_811 rfl (lv_at hl 1 rfl) ?_
      refine lfe (n := 1) hz hX hbl hS hl (by omega) hL hx1 (by decide) dL_law_812 dL_law_813 dL_law_814 dL_law_815 dL_law_816 ?_
      refine lfe (n := 2) hz hX hbl hS hl (by omega) hL hx2 (by decide) dL_law_817 dL_law_818 dL_law_819 dL_law_820 dL_law_821 ?_
      refine wrV (A := lA s_) (As := [.int (nI kk), .int (nI stp)]) (rest := []) hz (okAm tS sk sv) (c5_surest_some l_ D k a tS sk sv C F E Q ((G 0)) kk stp jj dd hB.2 hB.1 kkl kkh stph hbs (by omega) hdd) (cwV 2 hz.2.2.2.2 gL_law_X5_surest rfl rfl rfl (by decide +kernel) ⟨Nat.le_of_ble_eq_true rfl, Nat.le_of_ble_eq_true rfl⟩) hK hy (p0.app (p1.app p10)) (D_ix ha [0, 1, 2, 3, 4, 5, 6, 7, 8, 53] rfl (by decide) (by decide)) hS 0 5 rfl rfl rfl rfl hl.1 rfl (Nat.le_of_ble_eq_true rfl) dL_law_822 ⟨Nat.le_of_ble_eq_true rfl, Nat.le_of_ble_eq_true rfl⟩ (fun r u H1 locs hp hP1 hS hfr => ?_)
      obtain rfl : r = nI jj := hp
      have p0 := hP1.left
      have hP1 := hP1.right
      have p1 := hP1.left
      have hP1 := hP1.right
      have p10 := hP1
      have kp : ∀ (g_ : va_W) (jx : List Nat), g_.map (fun q => q.1) = jx.map a → (∀ j ∈ jx, j < 54) → (∀ j ∈ jx, j ∉ ([0, 1, 2, 3, 4, 5, 6, 7, 8, 53] : List Nat)) → va_P D vwCl g_ H → va_P D vwCl g_ H1 := fun g_ jx h1 h2 h3 h4 => keepG (wc := ho a C ++ (bw a 1 k F E ++ (qw a Q))) ha [0, 1, 2, 3, 4, 5, 6, 7, 8, 53] jx rfl h1 (by decide) h2 h3 h4 hfr
      have p2 := kp _ [9, 10, 11, 12, 13, 14, 15, 16] rfl (by decide) (by decide) p2
      have p3 := kp _ [17] rfl (by decide) (by decide) p3
      have p4 := kp _ [18, 19, 20, 21, 22, 23, 24, 25] rfl (by decide) (by decide) p4
      have p5 := kp _ [26, 27, 28, 29, 30, 31, 32, 33] rfl (by decide) (by decide) p5
      have p6 := kp _ [34] rfl (by decide) (by decide) p6
      have p7 := kp _ [35, 36] rfl (by decide) (by decide) p7
      have p8 := kp _ [37, 38] rfl (by decide) (by decide) p8
      have p9 := kp _ [39, 40, 41, 42, 43, 44, 45, 46, 47, 48, 49, 50, 51, 52] rfl (by decide) (by decide) p9
      have pm := keepX (wc := ho a C ++ (bw a 1 k F E ++ (qw a Q))) (g := mw b k I J G) hab [0, 1, 2, 3, 4, 5, 6, 7, 8, 53] [0, 1, 2, 3, 4, 5, 6, 7, 8, 9, 10, 11, 12] rfl rfl (by decide) (by decide) pm hfr
      refine lv_aload_n hz.1 hz.2.1 dL_law_825 rfl (lv_at hl 2 rfl) ?_
      refine lfe (n := 1) hz hX hbl hS hl (by omega) hL hx1 (by decide) dL_law_826 dL_law_827 dL_law_828 dL_law_829 dL_law_830 ?_
      refine lfe (n := 2) hz hX hbl hS hl (by omega) hL hx2 (by decide) dL_law_831 dL_law_832 dL_law_833 dL_law_834 dL_law_835 ?_
      refine wrV (A := lA s_) (As := [.int (nI kk), .int (nI stp)]) (rest := [.int (nI jj)]) hz okYT (c6_surest_some l_ D k b I J G kk stp jj dd hB.1 kkl kkh stph hbs (by omega) hdd) (cwV 2 hz.2.2.2.2 gL_law_X6_surest rfl rfl rfl (by decide +kernel) ⟨Nat.le_of_ble_eq_true rfl, Nat.le_of_ble_eq_true rfl⟩) hK trivial pm (D_ix hbk [0, 1, 2, 3, 4, 5, 6, 7, 8, 9, 10, 11, 12] rfl (by decide) (by decide)) hS 0 6 rfl rfl rfl rfl hl.1 rfl (Nat.le_of_ble_eq_true rfl) dL_law_836 ⟨Nat.le_of_ble_eq_true rfl, Nat.le_of_ble_eq_true rfl⟩ (fun r u H1 locs hp hP1 hS hfr => ?_)
      obtain rfl : r = nI jj := hp
      have pm := hP1
      have pc_ : CPs D k a C F E Fd Ed Fp Ep Fq Eg K X ((G 9)) Z S Rr Y Nt Sl Mt Ch (nset (nset Q 0 (dd / Nat.gcd dd (sCh ((G 0) 0) kk))) 1 ((sCh ((G 0) 0) kk) / Nat.gcd dd (sCh ((G 0) 0) kk))) H1 := CPs.kept ⟨p0, p1, p2, p3, p4, p5, p6, p7, p8, p9, p10⟩ hba hfr
      obtain ⟨p0, p1, p2, p3, p4, p5, p6, p7, p8, p9, p10⟩ := pc_
      refine cmpE (tgt := 1063) hz (rfl) dL_law_839 (by decide) ?_
      exact hk _ _ ⟨C, F, E, Fd, Ed, Fp, Ep, Fq, Eg, K, X, (G 9), Z, S, Rr, Y, Nt, Sl, Mt, Ch, nset (nset Q 0 (dd / Nat.gcd dd (sCh ((G 0) 0) kk))) 1 ((sCh ((G 0) 0) kk) / Nat.gcd dd (sCh ((G 0) 0) kk)), I, nset (nset J 0 (dd / Nat.gcd dd (sCh (G 0 0) kk))) 1 ((sCh (G 0 0) kk) / Nat.gcd dd (sCh (G 0 0) kk)), G, ⟨hB, hC, hT, ⟨rfl, rfl⟩, hM, hU⟩, ⟨p0, p1, p2, p3, p4, p5, p6, p7, p8, p9, p10⟩, pm⟩ hS ls hl

set_option maxHeartbeats 4000000 in
set_option maxRecDepth 100000 in
theorem law_whence {p_ : Program} {l_ : Launch} {e_ : Env} {s_ : State} {m_ : MethodId} {bl_ : List Frame} {me_ : Method} {c_ : Code} {D : va_G} {k : Nat → ClassId} {a b : Nat → Nat} {b0 L : Nat} {xs : Nat → Int32} {tS : Nat} {sk sv : Nat → Nat} {i : Nat} (E0 : LE p_ s_ m_ c_ D k a b b0 L xs tS sk sv) (hi : i + 6 ≤ L) (hk : LK p_ l_ e_ s_ m_ bl_ me_ c_ D k a b b0 i 1063) : LK p_ l_ e_ s_ m_ bl_ me_ c_ D k a b b0 i 844 := by
  obtain ⟨hz, hX, hbl, hK, hy, ha, hbk, hab, hL⟩ := E0
  have hba : ∀ i j, i < 13 → j < 54 → b i ≠ a j := fun i j h1 h2 q => hab j i h2 h1 q.symm
  intro H locs hI hS ls hl
  obtain ⟨C, F, E, Fd, Ed, Fp, Ep, Fq, Eg, K, X, T, Z, S, Rr, Y, Nt, Sl, Mt, Ch, Q, I, J, G, ⟨hB, hC, hT, hQ, hM, hU⟩, ⟨p0, p1, p2, p3, p4, p5, p6, p7, p8, p9, p10⟩, pm⟩ := id hI
  obtain ⟨eX, hI2, rfl, hTb⟩ := hT
  have hT : LT X (G 9) I (G 9) := ⟨eX, hI2, rfl, hTb⟩
  have f0 := hB.1.n2
  have f1 := hB.1.n9
  have f4 := hB.1.pc
  have f5 := hB.1.wc
  obtain ⟨x1, hx1⟩ : ∃ z, xs (i + 1) = z := ⟨_, rfl⟩
  obtain ⟨x2, hx2⟩ : ∃ z, xs (i + 2) = z := ⟨_, rfl⟩
  obtain ⟨x3, hx3⟩ : ∃ z, xs (i + 3) = z := ⟨_, rfl⟩
  cases hb : (wIn x1 0 (G 0 0 - 1) && wIn x2 0 11 && wIn x3 1 3)
  · refine lv_aload_n hz.1 hz.2.1 dL_law_844 rfl (lv_at hl 1 rfl) ?_
    refine lfe (n := 1) hz hX hbl hS hl (by omega) hL hx1 (by decide) dL_law_845 dL_law_846 dL_law_847 dL_law_848 dL_law_849 ?_
    refine lfe (n := 2) hz hX hbl hS hl (by omega) hL hx2 (by decide) dL_law_850 dL_law_851 dL_law_852 dL_law_853 dL_law_854 ?_
    refine lfe (n := 3) hz hX hbl hS hl (by omega) hL hx3 (by decide) dL_law_855 dL_law_856 dL_law_857 dL_law_858 dL_law_859 ?_
    refine wrV (A := lA s_) (As := [.int x1, .int x2, .int x3]) (rest := []) hz (okAm tS sk sv) (c5_whence_bad l_ D k a tS sk sv C F E ((G 0)) x1 x2 x3 hB.2 hB.1 hb) (cwV 3 hz.2.2.2.2 gL_law_X5_whence rfl rfl rfl (by decide +kernel) ⟨Nat.le_of_ble_eq_true rfl, Nat.le_of_ble_eq_true rfl⟩) hK hy (p0.app p1) (D_ix ha [0, 1, 2, 3, 4, 5, 6, 7, 8] rfl (by decide) (by decide)) hS 0 5 rfl rfl rfl rfl hl.1 rfl (Nat.le_of_ble_eq_true rfl) dL_law_860 ⟨Nat.le_of_ble_eq_true rfl, Nat.le_of_ble_eq_true rfl⟩ (fun r u H1 locs hp hP1 hS hfr => ?_)
    obtain rfl : r = -2 := hp
    have p0 := hP1.left
    have hP1 := hP1.right
    have p1 := hP1
    have kp : ∀ (g_ : va_W) (jx : List Nat), g_.map (fun q => q.1) = jx.map a → (∀ j ∈ jx, j < 54) → (∀ j ∈ jx, j ∉ ([0, 1, 2, 3, 4, 5, 6, 7, 8] : List Nat)) → va_P D vwCl g_ H → va_P D vwCl g_ H1 := fun g_ jx h1 h2 h3 h4 => keepG (wc := ho a C ++ (bw a 1 k F E)) ha [0, 1, 2, 3, 4, 5, 6, 7, 8] jx rfl h1 (by decide) h2 h3 h4 hfr
    have p2 := kp _ [9, 10, 11, 12, 13, 14, 15, 16] rfl (by decide) (by decide) p2
    have p3 := kp _ [17] rfl (by decide) (by decide) p3
    have p4 := kp _ [18, 19, 20, 21, 22, 23, 24, 25] rfl (by decide) (by decide) p4
    have p5 := kp _ [26, 27, 28, 29, 30, 31, 32, 33] rfl (by decide) (by decide) p5
    have p6 := kp _ [34] rfl (by decide) (by decide) p6
    have p7 := kp _ [35, 36] rfl (by decide) (by decide) p7
    have p8 := kp _ [37, 38] rfl (by decide) (by decide) p8
    have p9 := kp _ [39, 40, 41, 42, 43, 44, 45, 46, 47, 48, 49, 50, 51, 52] rfl (by decide) (by decide) p9
    have p10 := kp _ [53] rfl (by decide) (by decide) p10
    have pm := keepX (wc := ho a C ++ (bw a 1 k F E)) (g := mw b k I J G) hab [0, 1, 2, 3, 4, 5, 6, 7, 8] [0, 1, 2, 3, 4, 5, 6, 7, 8, 9, 10, 11, 12] rfl rfl (by decide) (by decide) pm hfr
    refine lv_aload_n hz.1 hz.2.1 dL_law_863 rfl (lv_at hl 2 rfl) ?_
    refine lfe (n := 1) hz hX hbl hS hl (by omega) hL hx1 (by decide) dL_law_864 dL_law_865 dL_law_866 dL_law_867 dL_law_868 ?_
    refine lfe (n := 2) hz hX hbl hS hl (by omega) hL hx2 (by decide) dL_law_869 dL_law_870 dL_law_871 dL_law_872 dL_law_873 ?_
    refine lfe (n := 3) hz hX hbl hS hl (by omega) hL hx3 (by decide) dL_law_874 dL_law_875 dL_law_876 dL_law_877 dL_law_878 ?_
    refine wrV (A := lA s_) (As := [.int x1, .int x2, .int x3]) (rest := [.int (-2)]) hz okYT (c6_whence_bad l_ D k b I J G x1 x2 x3 hB.1 hb) (cwV 3 hz.2.2.2.2 gL_law_X6_whence rfl rfl rfl (by decide +kernel) ⟨Nat.le_of_ble_eq_true rfl, Nat.le_of_ble_eq_true rfl⟩) hK trivial pm (D_ix hbk [0, 1, 2, 3, 4, 5, 6, 7, 8, 9, 10, 11, 12] rfl (by decide) (by decide)) hS 0 6 rfl rfl rfl rfl hl.1 rfl (Nat.le_of_ble_eq_true rfl) dL_law_879 ⟨Nat.le_of_ble_eq_true rfl, Nat.le_of_ble_eq_true rfl⟩ (fun r u H1 locs hp hP1 hS hfr => ?_)
    obtain rfl : r = -2 := hp
    have pm := hP1
    have pc_ : CPs D k a (nset C 0 (C 0 + 1)) F E Fd Ed Fp Ep Fq Eg K X ((G 9)) Z S Rr Y Nt Sl Mt Ch Q H1 := CPs.kept ⟨p0, p1, p2, p3, p4, p5, p6, p7, p8, p9, p10⟩ hba hfr
    obtain ⟨p0, p1, p2, p3, p4, p5, p6, p7, p8, p9, p10⟩ := pc_
    refine cmpE (tgt := 1063) hz (rfl) dL_law_882 (by decide) ?_
    exact hk _ _ ⟨nset C 0 (C 0 + 1), F, E, Fd, Ed, Fp, Ep, Fq, Eg, K, X, (G 9), Z, S, Rr, Y, Nt, Sl, Mt, Ch, Q, I, J, gset G 3 (sRef (G 3) 0), ⟨hB, hC.s0, hT, hQ, hM, hU⟩, ⟨p0, p1, p2, p3, p4, p5, p6, p7, p8, p9, p10⟩, pm⟩ hS ls hl
  · simp only [Bool.and_eq_true] at hb
    obtain ⟨⟨hb1, hb2⟩, hb3⟩ := hb
    obtain ⟨p, ⟨pl, ph⟩, rfl⟩ := wIn_t (by omega) (by omega) hb1
    obtain ⟨nt, ⟨ntl, nth⟩, rfl⟩ := wIn_t (by omega) (by omega) hb2
    obtain ⟨s, ⟨sl, sh⟩, rfl⟩ := wIn_t (by omega) (by omega) hb3
    refine lv_aload_n hz.1 hz.2.1 dL_law_844 rfl (lv_at hl 1 rfl) ?_
    refine lfe (n := 1) hz hX hbl hS hl (by omega) hL hx1 (by decide) dL_law_845 dL_law_846 dL_law_847 dL_law_848 dL_law_849 ?_
    refine lfe (n := 2) hz hX hbl hS hl (by omega) hL hx2 (by decide) dL_law_850 dL_law_851 dL_law_852 dL_law_853 dL_law_854 ?_
    refine lfe (n := 3) hz hX hbl hS hl (by omega) hL hx3 (by decide) dL_law_855 dL_law_856 dL_law_857 dL_law_858 dL_law_859 ?_
    refine rdV (A := lA s_) (As := [.int (nI p), .int (nI nt), .int (nI s)]) (rest := []) hz (okAm tS sk sv) (c5_whence_ok l_ D k a tS sk sv C F E ((G 0)) p nt s hB.2 hB.1 (by omega) nth sl sh) (cwV 3 hz.2.2.2.2 gL_law_X5_whence rfl rfl rfl (by decide +kernel) ⟨Nat.le_of_ble_eq_true rfl, Nat.le_of_ble_eq_true rfl⟩) hK hy (p0.app p1) (D_ix ha [0, 1, 2, 3, 4, 5, 6, 7, 8] rfl (by decide) (by decide)) hS 0 5 rfl rfl rfl rfl hl.1 rfl (Nat.le_of_ble_eq_true rfl) dL_law_860 ⟨Nat.le_of_ble_eq_true rfl, Nat.le_of_ble_eq_true rfl⟩ ?_
    refine lv_aload_n hz.1 hz.2.1 dL_law_863 rfl (lv_at hl 2 rfl) ?_
    refine lfe (n := 1) hz hX hbl hS hl (by omega) hL hx1 (by decide) dL_law_864 dL_law_865 dL_law_866 dL_law_867 dL_law_868 ?_
    refine lfe (n := 2) hz hX hbl hS hl (by omega) hL hx2 (by decide) dL_law_869 dL_law_870 dL_law_871 dL_law_872 dL_law_873 ?_
    refine lfe (n := 3) hz hX hbl hS hl (by omega) hL hx3 (by decide) dL_law_874 dL_law_875 dL_law_876 dL_law_877 dL_law_878 ?_
    refine rdV (A := lA s_) (As := [.int (nI p), .int (nI nt), .int (nI s)]) (rest := [.int (nI (sWhence (G 0) p nt s))]) hz okYT (c6_whence_ok l_ D k b I J G p nt s hB.1 (by omega) nth sl sh) (cwV 3 hz.2.2.2.2 gL_law_X6_whence rfl rfl rfl (by decide +kernel) ⟨Nat.le_of_ble_eq_true rfl, Nat.le_of_ble_eq_true rfl⟩) hK trivial pm (D_ix hbk [0, 1, 2, 3, 4, 5, 6, 7, 8, 9, 10, 11, 12] rfl (by decide) (by decide)) hS 0 6 rfl rfl rfl rfl hl.1 rfl (Nat.le_of_ble_eq_true rfl) dL_law_879 ⟨Nat.le_of_ble_eq_true rfl, Nat.le_of_ble_eq_true rfl⟩ ?_
    refine cmpE (tgt := 1063) hz (rfl) dL_law_882 (by decide) ?_
    exact hk H locs hI hS ls hl

set_option maxHeartbeats 4000000 in
set_option maxRecDepth 100000 in
theorem law_doubled {p_ : Program} {l_ : Launch} {e_ : Env} {s_ : State} {m_ : MethodId} {bl_ : List Frame} {me_ : Method} {c_ : Code} {D : va_G} {k : Nat → ClassId} {a b : Nat → Nat} {b0 L : Nat} {xs : Nat → Int32} {tS : Nat} {sk sv : Nat → Nat} {i : Nat} (E0 : LE p_ s_ m_ c_ D k a b b0 L xs tS sk sv) (hi : i + 6 ≤ L) (hk : LK p_ l_ e_ s_ m_ bl_ me_ c_ D k a b b0 i 1063) : LK p_ l_ e_ s_ m_ bl_ me_ c_ D k a b b0 i 887 := by
  obtain ⟨hz, hX, hbl, hK, hy, ha, hbk, hab, hL⟩ := E0
  have hba : ∀ i j, i < 13 → j < 54 → b i ≠ a j := fun i j h1 h2 q => hab j i h2 h1 q.symm
  intro H locs hI hS ls hl
  obtain ⟨C, F, E, Fd, Ed, Fp, Ep, Fq, Eg, K, X, T, Z, S, Rr, Y, Nt, Sl, Mt, Ch, Q, I, J, G, ⟨hB, hC, hT, hQ, hM, hU⟩, ⟨p0, p1, p2, p3, p4, p5, p6, p7, p8, p9, p10⟩, pm⟩ := id hI
  obtain ⟨eX, hI2, rfl, hTb⟩ := hT
  have hT : LT X (G 9) I (G 9) := ⟨eX, hI2, rfl, hTb⟩
  have f0 := hB.1.n2
  have f1 := hB.1.n9
  have f4 := hB.1.pc
  have f5 := hB.1.wc
  refine lv_aload_n hz.1 hz.2.1 dL_law_887 rfl (lv_at hl 1 rfl) ?_
  refine rdV (A := lA s_) (As := []) (rest := []) hz (okAm tS sk sv) (c5_doubled l_ D k a tS sk sv C F E ((G 0)) hB.2 hB.1 ) (cwV 0 hz.2.2.2.2 gL_law_X5_doubled rfl rfl rfl (by decide +kernel) ⟨Nat.le_of_ble_eq_true rfl, Nat.le_of_ble_eq_true rfl⟩) hK hy (p0.app p1) (D_ix ha [0, 1, 2, 3, 4, 5, 6, 7, 8] rfl (by decide) (by decide)) hS 0 5 rfl rfl rfl rfl hl.1 rfl (Nat.le_of_ble_eq_true rfl) dL_law_888 ⟨Nat.le_of_ble_eq_true rfl, Nat.le_of_ble_eq_true rfl⟩ ?_
  refine lv_aload_n hz.1 hz.2.1 dL_law_891 rfl (lv_at hl 2 rfl) ?_
  refine wrV (A := lA s_) (As := []) (rest := [.int (oI (sDoubled (G 0)))]) hz okYT (c6_doubled l_ D k b I J G  hB.1) (cwV 0 hz.2.2.2.2 gL_law_X6_doubled rfl rfl rfl (by decide +kernel) ⟨Nat.le_of_ble_eq_true rfl, Nat.le_of_ble_eq_true rfl⟩) hK trivial pm (D_ix hbk [0, 1, 2, 3, 4, 5, 6, 7, 8, 9, 10, 11, 12] rfl (by decide) (by decide)) hS 0 6 rfl rfl rfl rfl hl.1 rfl (Nat.le_of_ble_eq_true rfl) dL_law_892 ⟨Nat.le_of_ble_eq_true rfl, Nat.le_of_ble_eq_true rfl⟩ (fun r u H1 locs hp hP1 hS hfr => ?_)
  obtain rfl : r = oI (sDoubled (G 0)) := hp
  have pm := hP1
  have pc_ : CPs D k a C F E Fd Ed Fp Ep Fq Eg K X ((G 9)) Z S Rr Y Nt Sl Mt Ch Q H1 := CPs.kept ⟨p0, p1, p2, p3, p4, p5, p6, p7, p8, p9, p10⟩ hba hfr
  obtain ⟨p0, p1, p2, p3, p4, p5, p6, p7, p8, p9, p10⟩ := pc_
  refine cmpE (tgt := 1063) hz (rfl) dL_law_895 (by decide) ?_
  exact hk _ _ ⟨C, F, E, Fd, Ed, Fp, Ep, Fq, Eg, K, X, (G 9), Z, S, Rr, Y, Nt, Sl, Mt, Ch, Q, I, J, G, ⟨hB, hC, hT, hQ, hM, hU⟩, ⟨p0, p1, p2, p3, p4, p5, p6, p7, p8, p9, p10⟩, pm⟩ hS ls hl

set_option maxHeartbeats 4000000 in
set_option maxRecDepth 100000 in
theorem law_doubt {p_ : Program} {l_ : Launch} {e_ : Env} {s_ : State} {m_ : MethodId} {bl_ : List Frame} {me_ : Method} {c_ : Code} {D : va_G} {k : Nat → ClassId} {a b : Nat → Nat} {b0 L : Nat} {xs : Nat → Int32} {tS : Nat} {sk sv : Nat → Nat} {i : Nat} (E0 : LE p_ s_ m_ c_ D k a b b0 L xs tS sk sv) (hi : i + 6 ≤ L) (hk : LK p_ l_ e_ s_ m_ bl_ me_ c_ D k a b b0 i 1063) : LK p_ l_ e_ s_ m_ bl_ me_ c_ D k a b b0 i 900 := by
  obtain ⟨hz, hX, hbl, hK, hy, ha, hbk, hab, hL⟩ := E0
  have hba : ∀ i j, i < 13 → j < 54 → b i ≠ a j := fun i j h1 h2 q => hab j i h2 h1 q.symm
  intro H locs hI hS ls hl
  obtain ⟨C, F, E, Fd, Ed, Fp, Ep, Fq, Eg, K, X, T, Z, S, Rr, Y, Nt, Sl, Mt, Ch, Q, I, J, G, ⟨hB, hC, hT, hQ, hM, hU⟩, ⟨p0, p1, p2, p3, p4, p5, p6, p7, p8, p9, p10⟩, pm⟩ := id hI
  obtain ⟨eX, hI2, rfl, hTb⟩ := hT
  have hT : LT X (G 9) I (G 9) := ⟨eX, hI2, rfl, hTb⟩
  have f0 := hB.1.n2
  have f1 := hB.1.n9
  have f4 := hB.1.pc
  have f5 := hB.1.wc
  obtain ⟨x1, hx1⟩ : ∃ z, xs (i + 1) = z := ⟨_, rfl⟩
  obtain ⟨x2, hx2⟩ : ∃ z, xs (i + 2) = z := ⟨_, rfl⟩
  cases hb : (wIn x1 0 100 && wIn x2 0 100)
  · refine lv_aload_n hz.1 hz.2.1 dL_law_900 rfl (lv_at hl 1 rfl) ?_
    refine lfe (n := 1) hz hX hbl hS hl (by omega) hL hx1 (by decide) dL_law_901 dL_law_902 dL_law_903 dL_law_904 dL_law_905 ?_
    refine lfe (n := 2) hz hX hbl hS hl (by omega) hL hx2 (by decide) dL_law_906 dL_law_907 dL_law_908 dL_law_909 dL_law_910 ?_
    refine wrV (A := lA s_) (As := [.int x1, .int x2]) (rest := []) hz (okAm tS sk sv) (c5_doubt_bad l_ D k a tS sk sv C F E ((G 0)) x1 x2 hB.2 hB.1 hb) (cwV 2 hz.2.2.2.2 gL_law_X5_doubt rfl rfl rfl (by decide +kernel) ⟨Nat.le_of_ble_eq_true rfl, Nat.le_of_ble_eq_true rfl⟩) hK hy (p0.app p1) (D_ix ha [0, 1, 2, 3, 4, 5, 6, 7, 8] rfl (by decide) (by decide)) hS 0 5 rfl rfl rfl rfl hl.1 rfl (Nat.le_of_ble_eq_true rfl) dL_law_911 ⟨Nat.le_of_ble_eq_true rfl, Nat.le_of_ble_eq_true rfl⟩ (fun r u H1 locs hp hP1 hS hfr => ?_)
    obtain rfl : r = -2 := hp
    have p0 := hP1.left
    have hP1 := hP1.right
    have p1 := hP1
    have kp : ∀ (g_ : va_W) (jx : List Nat), g_.map (fun q => q.1) = jx.map a → (∀ j ∈ jx, j < 54) → (∀ j ∈ jx, j ∉ ([0, 1, 2, 3, 4, 5, 6, 7, 8] : List Nat)) → va_P D vwCl g_ H → va_P D vwCl g_ H1 := fun g_ jx h1 h2 h3 h4 => keepG (wc := ho a C ++ (bw a 1 k F E)) ha [0, 1, 2, 3, 4, 5, 6, 7, 8] jx rfl h1 (by decide) h2 h3 h4 hfr
    have p2 := kp _ [9, 10, 11, 12, 13, 14, 15, 16] rfl (by decide) (by decide) p2
    have p3 := kp _ [17] rfl (by decide) (by decide) p3
    have p4 := kp _ [18, 19, 20, 21, 22, 23, 24, 25] rfl (by decide) (by decide) p4
    have p5 := kp _ [26, 27, 28, 29, 30, 31, 32, 33] rfl (by decide) (by decide) p5
    have p6 := kp _ [34] rfl (by decide) (by decide) p6
    have p7 := kp _ [35, 36] rfl (by decide) (by decide) p7
    have p8 := kp _ [37, 38] rfl (by decide) (by decide) p8
    have p9 := kp _ [39, 40, 41, 42, 43, 44, 45, 46, 47, 48, 49, 50, 51, 52] rfl (by decide) (by decide) p9
    have p10 := kp _ [53] rfl (by decide) (by decide) p10
    have pm := keepX (wc := ho a C ++ (bw a 1 k F E)) (g := mw b k I J G) hab [0, 1, 2, 3, 4, 5, 6, 7, 8] [0, 1, 2, 3, 4, 5, 6, 7, 8, 9, 10, 11, 12] rfl rfl (by decide) (by decide) pm hfr
    refine lv_aload_n hz.1 hz.2.1 dL_law_914 rfl (lv_at hl 2 rfl) ?_
    refine lfe (n := 1) hz hX hbl hS hl (by omega) hL hx1 (by decide) dL_law_915 dL_law_916 dL_law_917 dL_law_918 dL_law_919 ?_
    refine lfe (n := 2) hz hX hbl hS hl (by omega) hL hx2 (by decide) dL_law_920 dL_law_921 dL_law_922 dL_law_923 dL_law_924 ?_
    refine wrV (A := lA s_) (As := [.int x1, .int x2]) (rest := [.int (-2)]) hz okYT (c6_doubt_bad l_ D k b I J G x1 x2 hb) (cwV 2 hz.2.2.2.2 gL_law_X6_doubt rfl rfl rfl (by decide +kernel) ⟨Nat.le_of_ble_eq_true rfl, Nat.le_of_ble_eq_true rfl⟩) hK trivial pm (D_ix hbk [0, 1, 2, 3, 4, 5, 6, 7, 8, 9, 10, 11, 12] rfl (by decide) (by decide)) hS 0 6 rfl rfl rfl rfl hl.1 rfl (Nat.le_of_ble_eq_true rfl) dL_law_925 ⟨Nat.le_of_ble_eq_true rfl, Nat.le_of_ble_eq_true rfl⟩ (fun r u H1 locs hp hP1 hS hfr => ?_)
    obtain rfl : r = -2 := hp
    have pm := hP1
    have pc_ : CPs D k a (nset C 0 (C 0 + 1)) F E Fd Ed Fp Ep Fq Eg K X ((G 9)) Z S Rr Y Nt Sl Mt Ch Q H1 := CPs.kept ⟨p0, p1, p2, p3, p4, p5, p6, p7, p8, p9, p10⟩ hba hfr
    obtain ⟨p0, p1, p2, p3, p4, p5, p6, p7, p8, p9, p10⟩ := pc_
    refine cmpE (tgt := 1063) hz (rfl) dL_law_928 (by decide) ?_
    exact hk _ _ ⟨nset C 0 (C 0 + 1), F, E, Fd, Ed, Fp, Ep, Fq, Eg, K, X, (G 9), Z, S, Rr, Y, Nt, Sl, Mt, Ch, Q, I, J, gset G 3 (sRef (G 3) 0), ⟨hB, hC.s0, hT, hQ, hM, hU⟩, ⟨p0, p1, p2, p3, p4, p5, p6, p7, p8, p9, p10⟩, pm⟩ hS ls hl
  · simp only [Bool.and_eq_true] at hb
    obtain ⟨hb1, hb2⟩ := hb
    obtain ⟨p, ⟨pl, ph⟩, rfl⟩ := wIn_t (by omega) (by omega) hb1
    obtain ⟨q, ⟨ql, qh⟩, rfl⟩ := wIn_t (by omega) (by omega) hb2
    refine lv_aload_n hz.1 hz.2.1 dL_law_900 rfl (lv_at hl 1 rfl) ?_
    refine lfe (n := 1) hz hX hbl hS hl (by omega) hL hx1 (by decide) dL_law_901 dL_law_902 dL_law_903 dL_law_904 dL_law_905 ?_
    refine lfe (n := 2) hz hX hbl hS hl (by omega) hL hx2 (by decide) dL_law_906 dL_law_907 dL_law_908 dL_law_909 dL_law_910 ?_
    refine wrV (A := lA s_) (As := [.int (nI p), .int (nI q)]) (rest := []) hz (okAm tS sk sv) (c5_doubt_ok l_ D k a tS sk sv C F E Q ((G 0)) p q hB.2 hB.1 ph qh) (cwV 2 hz.2.2.2.2 gL_law_X5_doubt rfl rfl rfl (by decide +kernel) ⟨Nat.le_of_ble_eq_true rfl, Nat.le_of_ble_eq_true rfl⟩) hK hy (p0.app (p1.app p10)) (D_ix ha [0, 1, 2, 3, 4, 5, 6, 7, 8, 53] rfl (by decide) (by decide)) hS 0 5 rfl rfl rfl rfl hl.1 rfl (Nat.le_of_ble_eq_true rfl) dL_law_911 ⟨Nat.le_of_ble_eq_true rfl, Nat.le_of_ble_eq_true rfl⟩ (fun r u H1 locs hp hP1 hS hfr => ?_)
    obtain rfl : r = nI 1 := hp
    have p0 := hP1.left
    have hP1 := hP1.right
    have p1 := hP1.left
    have hP1 := hP1.right
    have p10 := hP1
    have kp : ∀ (g_ : va_W) (jx : List Nat), g_.map (fun q => q.1) = jx.map a → (∀ j ∈ jx, j < 54) → (∀ j ∈ jx, j ∉ ([0, 1, 2, 3, 4, 5, 6, 7, 8, 53] : List Nat)) → va_P D vwCl g_ H → va_P D vwCl g_ H1 := fun g_ jx h1 h2 h3 h4 => keepG (wc := ho a C ++ (bw a 1 k F E ++ (qw a Q))) ha [0, 1, 2, 3, 4, 5, 6, 7, 8, 53] jx rfl h1 (by decide) h2 h3 h4 hfr
    have p2 := kp _ [9, 10, 11, 12, 13, 14, 15, 16] rfl (by decide) (by decide) p2
    have p3 := kp _ [17] rfl (by decide) (by decide) p3
    have p4 := kp _ [18, 19, 20, 21, 22, 23, 24, 25] rfl (by decide) (by decide) p4
    have p5 := kp _ [26, 27, 28, 29, 30, 31, 32, 33] rfl (by decide) (by decide) p5
    have p6 := kp _ [34] rfl (by decide) (by decide) p6
    have p7 := kp _ [35, 36] rfl (by decide) (by decide) p7
    have p8 := kp _ [37, 38] rfl (by decide) (by decide) p8
    have p9 := kp _ [39, 40, 41, 42, 43, 44, 45, 46, 47, 48, 49, 50, 51, 52] rfl (by decide) (by decide) p9
    have pm := keepX (wc := ho a C ++ (bw a 1 k F E ++ (qw a Q))) (g := mw b k I J G) hab [0, 1, 2, 3, 4, 5, 6, 7, 8, 53] [0, 1, 2, 3, 4, 5, 6, 7, 8, 9, 10, 11, 12] rfl rfl (by decide) (by decide) pm hfr
    refine lv_aload_n hz.1 hz.2.1 dL_law_914 rfl (lv_at hl 2 rfl) ?_
    refine lfe (n := 1) hz hX hbl hS hl (by omega) hL hx1 (by decide) dL_law_915 dL_law_916 dL_law_917 dL_law_918 dL_law_919 ?_
    refine lfe (n := 2) hz hX hbl hS hl (by omega) hL hx2 (by decide) dL_law_920 dL_law_921 dL_law_922 dL_law_923 dL_law_924 ?_
    refine wrV (A := lA s_) (As := [.int (nI p), .int (nI q)]) (rest := [.int (nI 1)]) hz okYT (c6_doubt_ok l_ D k b I J G p q ph qh) (cwV 2 hz.2.2.2.2 gL_law_X6_doubt rfl rfl rfl (by decide +kernel) ⟨Nat.le_of_ble_eq_true rfl, Nat.le_of_ble_eq_true rfl⟩) hK trivial pm (D_ix hbk [0, 1, 2, 3, 4, 5, 6, 7, 8, 9, 10, 11, 12] rfl (by decide) (by decide)) hS 0 6 rfl rfl rfl rfl hl.1 rfl (Nat.le_of_ble_eq_true rfl) dL_law_925 ⟨Nat.le_of_ble_eq_true rfl, Nat.le_of_ble_eq_true rfl⟩ (fun r u H1 locs hp hP1 hS hfr => ?_)
    obtain rfl : r = nI 1 := hp
    have pm := hP1
    have pc_ : CPs D k a C F E Fd Ed Fp Ep Fq Eg K X ((G 9)) Z S Rr Y Nt Sl Mt Ch (nset (nset Q 0 ((100 * p) / Nat.gcd (100 * p) (sDu p q))) 1 ((sDu p q) / Nat.gcd (100 * p) (sDu p q))) H1 := CPs.kept ⟨p0, p1, p2, p3, p4, p5, p6, p7, p8, p9, p10⟩ hba hfr
    obtain ⟨p0, p1, p2, p3, p4, p5, p6, p7, p8, p9, p10⟩ := pc_
    refine cmpE (tgt := 1063) hz (rfl) dL_law_928 (by decide) ?_
    exact hk _ _ ⟨C, F, E, Fd, Ed, Fp, Ep, Fq, Eg, K, X, (G 9), Z, S, Rr, Y, Nt, Sl, Mt, Ch, nset (nset Q 0 ((100 * p) / Nat.gcd (100 * p) (sDu p q))) 1 ((sDu p q) / Nat.gcd (100 * p) (sDu p q)), I, nset (nset J 0 ((100 * p) / Nat.gcd (100 * p) (sDu p q))) 1 ((sDu p q) / Nat.gcd (100 * p) (sDu p q)), G, ⟨hB, hC, hT, ⟨rfl, rfl⟩, hM, hU⟩, ⟨p0, p1, p2, p3, p4, p5, p6, p7, p8, p9, p10⟩, pm⟩ hS ls hl

set_option maxHeartbeats 4000000 in
set_option maxRecDepth 100000 in
theorem law_part {p_ : Program} {l_ : Launch} {e_ : Env} {s_ : State} {m_ : MethodId} {bl_ : List Frame} {me_ : Method} {c_ : Code} {D : va_G} {k : Nat → ClassId} {a b : Nat → Nat} {b0 L : Nat} {xs : Nat → Int32} {tS : Nat} {sk sv : Nat → Nat} {i : Nat} (E0 : LE p_ s_ m_ c_ D k a b b0 L xs tS sk sv) (hi : i + 6 ≤ L) (hk : LK p_ l_ e_ s_ m_ bl_ me_ c_ D k a b b0 i 1063) : LK p_ l_ e_ s_ m_ bl_ me_ c_ D k a b b0 i 933 := by
  obtain ⟨hz, hX, hbl, hK, hy, ha, hbk, hab, hL⟩ := E0
  have hba : ∀ i j, i < 13 → j < 54 → b i ≠ a j := fun i j h1 h2 q => hab j i h2 h1 q.symm
  intro H locs hI hS ls hl
  obtain ⟨C, F, E, Fd, Ed, Fp, Ep, Fq, Eg, K, X, T, Z, S, Rr, Y, Nt, Sl, Mt, Ch, Q, I, J, G, ⟨hB, hC, hT, hQ, hM, hU⟩, ⟨p0, p1, p2, p3, p4, p5, p6, p7, p8, p9, p10⟩, pm⟩ := id hI
  obtain ⟨eX, hI2, rfl, hTb⟩ := hT
  have hT : LT X (G 9) I (G 9) := ⟨eX, hI2, rfl, hTb⟩
  have f0 := hB.1.n2
  have f1 := hB.1.n9
  have f4 := hB.1.pc
  have f5 := hB.1.wc
  obtain ⟨x1, hx1⟩ : ∃ z, xs (i + 1) = z := ⟨_, rfl⟩
  cases hb : (wIn x1 0 1)
  · refine lv_aload_n hz.1 hz.2.1 dL_law_933 rfl (lv_at hl 1 rfl) ?_
    refine lfe (n := 1) hz hX hbl hS hl (by omega) hL hx1 (by decide) dL_law_934 dL_law_935 dL_law_936 dL_law_937 dL_law_938 ?_
    refine wrVl (A := lA s_) (As := [.int x1]) (rest := []) hz (okAm tS sk sv) (c5_part_bad l_ D k a tS sk sv C F E ((G 0)) x1 hB.2 hB.1 hb) (cwV 1 hz.2.2.2.2 gL_law_X5_part rfl rfl rfl (by decide +kernel) ⟨Nat.le_of_ble_eq_true rfl, Nat.le_of_ble_eq_true rfl⟩) hK hy (p0.app p1) (D_ix ha [0, 1, 2, 3, 4, 5, 6, 7, 8] rfl (by decide) (by decide)) hS 0 5 rfl rfl rfl rfl hl.1 rfl (Nat.le_of_ble_eq_true rfl) dL_law_939 ⟨Nat.le_of_ble_eq_true rfl, Nat.le_of_ble_eq_true rfl⟩ (fun r u H1 locs hp hP1 hS hfr => ?_)
    obtain rfl : r = (-2 : Int64) := hp
    have p0 := hP1.left
    have hP1 := hP1.right
    have p1 := hP1
    have kp : ∀ (g_ : va_W) (jx : List Nat), g_.map (fun q => q.1) = jx.map a → (∀ j ∈ jx, j < 54) → (∀ j ∈ jx, j ∉ ([0, 1, 2, 3, 4, 5, 6, 7, 8] : List Nat)) → va_P D vwCl g_ H → va_P D vwCl g_ H1 := fun g_ jx h1 h2 h3 h4 => keepG (wc := ho a C ++ (bw a 1 k F E)) ha [0, 1, 2, 3, 4, 5, 6, 7, 8] jx rfl h1 (by decide) h2 h3 h4 hfr
    have p2 := kp _ [9, 10, 11, 12, 13, 14, 15, 16] rfl (by decide) (by decide) p2
    have p3 := kp _ [17] rfl (by decide) (by decide) p3
    have p4 := kp _ [18, 19, 20, 21, 22, 23, 24, 25] rfl (by decide) (by decide) p4
    have p5 := kp _ [26, 27, 28, 29, 30, 31, 32, 33] rfl (by decide) (by decide) p5
    have p6 := kp _ [34] rfl (by decide) (by decide) p6
    have p7 := kp _ [35, 36] rfl (by decide) (by decide) p7
    have p8 := kp _ [37, 38] rfl (by decide) (by decide) p8
    have p9 := kp _ [39, 40, 41, 42, 43, 44, 45, 46, 47, 48, 49, 50, 51, 52] rfl (by decide) (by decide) p9
    have p10 := kp _ [53] rfl (by decide) (by decide) p10
    have pm := keepX (wc := ho a C ++ (bw a 1 k F E)) (g := mw b k I J G) hab [0, 1, 2, 3, 4, 5, 6, 7, 8] [0, 1, 2, 3, 4, 5, 6, 7, 8, 9, 10, 11, 12] rfl rfl (by decide) (by decide) pm hfr
    refine lv_aload_n hz.1 hz.2.1 dL_law_942 rfl (lv_at hl 2 rfl) ?_
    refine lfe (n := 1) hz hX hbl hS hl (by omega) hL hx1 (by decide) dL_law_943 dL_law_944 dL_law_945 dL_law_946 dL_law_947 ?_
    refine wrVl (A := lA s_) (As := [.int x1]) (rest := [.long ((-2 : Int64))]) hz okYT (c6_part_bad l_ D k b I J G x1 (fun q => by rw [q] at hb; exact absurd hb (by decide)) (fun q => by rw [q] at hb; exact absurd hb (by decide))) (cwV 1 hz.2.2.2.2 gL_law_X6_part rfl rfl rfl (by decide +kernel) ⟨Nat.le_of_ble_eq_true rfl, Nat.le_of_ble_eq_true rfl⟩) hK trivial pm (D_ix hbk [0, 1, 2, 3, 4, 5, 6, 7, 8, 9, 10, 11, 12] rfl (by decide) (by decide)) hS 0 6 rfl rfl rfl rfl hl.1 rfl (Nat.le_of_ble_eq_true rfl) dL_law_948 ⟨Nat.le_of_ble_eq_true rfl, Nat.le_of_ble_eq_true rfl⟩ (fun r u H1 locs hp hP1 hS hfr => ?_)
    obtain rfl : r = (-2 : Int64) := hp
    have pm := hP1
    have pc_ : CPs D k a (nset C 0 (C 0 + 1)) F E Fd Ed Fp Ep Fq Eg K X ((G 9)) Z S Rr Y Nt Sl Mt Ch Q H1 := CPs.kept ⟨p0, p1, p2, p3, p4, p5, p6, p7, p8, p9, p10⟩ hba hfr
    obtain ⟨p0, p1, p2, p3, p4, p5, p6, p7, p8, p9, p10⟩ := pc_
    refine cmpL (tgt := 1063) hz (rfl) dL_law_951 dL_law_952 (by decide) ?_
    exact hk _ _ ⟨nset C 0 (C 0 + 1), F, E, Fd, Ed, Fp, Ep, Fq, Eg, K, X, (G 9), Z, S, Rr, Y, Nt, Sl, Mt, Ch, Q, I, J, gset G 3 (sRef (G 3) 0), ⟨hB, hC.s0, hT, hQ, hM, hU⟩, ⟨p0, p1, p2, p3, p4, p5, p6, p7, p8, p9, p10⟩, pm⟩ hS ls hl
  · have hb1 := hb
    obtain ⟨wh, ⟨whl, whh⟩, rfl⟩ := wIn_t (by omega) (by omega) hb1
    refine lv_aload_n hz.1 hz.2.1 dL_law_933 rfl (lv_at hl 1 rfl) ?_
    refine lfe (n := 1) hz hX hbl hS hl (by omega) hL hx1 (by decide) dL_law_934 dL_law_935 dL_law_936 dL_law_937 dL_law_938 ?_
    refine rdVl (A := lA s_) (As := [.int (nI wh)]) (rest := []) hz (okAm tS sk sv) (c5_part_ok l_ D k a tS sk sv C F E Q ((G 0)) wh hB.2 hB.1 whh) (cwV 1 hz.2.2.2.2 gL_law_X5_part rfl rfl rfl (by decide +kernel) ⟨Nat.le_of_ble_eq_true rfl, Nat.le_of_ble_eq_true rfl⟩) hK hy (p0.app (p1.app p10)) (D_ix ha [0, 1, 2, 3, 4, 5, 6, 7, 8, 53] rfl (by decide) (by decide)) hS 0 5 rfl rfl rfl rfl hl.1 rfl (Nat.le_of_ble_eq_true rfl) dL_law_939 ⟨Nat.le_of_ble_eq_true rfl, Nat.le_of_ble_eq_true rfl⟩ ?_
    refine lv_aload_n hz.1 hz.2.1 dL_law_942 rfl (lv_at hl 2 rfl) ?_
    refine lfe (n := 1) hz hX hbl hS hl (by omega) hL hx1 (by decide) dL_law_943 dL_law_944 dL_law_945 dL_law_946 dL_law_947 ?_
    refine rdVl (A := lA s_) (As := [.int (nI wh)]) (rest := [.long (lN (if wh = 0 then Q 0 else Q 1))]) hz okYT (c6_part_ok l_ D k b I J G wh whh) (cwV 1 hz.2.2.2.2 gL_law_X6_part rfl rfl rfl (by decide +kernel) ⟨Nat.le_of_ble_eq_true rfl, Nat.le_of_ble_eq_true rfl⟩) hK trivial pm (D_ix hbk [0, 1, 2, 3, 4, 5, 6, 7, 8, 9, 10, 11, 12] rfl (by decide) (by decide)) hS 0 6 rfl rfl rfl rfl hl.1 rfl (Nat.le_of_ble_eq_true rfl) dL_law_948 ⟨Nat.le_of_ble_eq_true rfl, Nat.le_of_ble_eq_true rfl⟩ ?_
    refine cmpL (tgt := 1063) hz (by rw [hQ.1, hQ.2]) dL_law_951 dL_law_952 (by decide) ?_
    exact hk H locs hI hS ls hl

set_option maxHeartbeats 4000000 in
set_option maxRecDepth 100000 in
theorem law_image {p_ : Program} {l_ : Launch} {e_ : Env} {s_ : State} {m_ : MethodId} {bl_ : List Frame} {me_ : Method} {c_ : Code} {D : va_G} {k : Nat → ClassId} {a b : Nat → Nat} {b0 L : Nat} {xs : Nat → Int32} {tS : Nat} {sk sv : Nat → Nat} {i : Nat} (E0 : LE p_ s_ m_ c_ D k a b b0 L xs tS sk sv) (hi : i + 6 ≤ L) (hk : LK p_ l_ e_ s_ m_ bl_ me_ c_ D k a b b0 i 1063) : LK p_ l_ e_ s_ m_ bl_ me_ c_ D k a b b0 i 957 := by
  obtain ⟨hz, hX, hbl, hK, hy, ha, hbk, hab, hL⟩ := E0
  have hba : ∀ i j, i < 13 → j < 54 → b i ≠ a j := fun i j h1 h2 q => hab j i h2 h1 q.symm
  intro H locs hI hS ls hl
  obtain ⟨C, F, E, Fd, Ed, Fp, Ep, Fq, Eg, K, X, T, Z, S, Rr, Y, Nt, Sl, Mt, Ch, Q, I, J, G, ⟨hB, hC, hT, hQ, hM, hU⟩, ⟨p0, p1, p2, p3, p4, p5, p6, p7, p8, p9, p10⟩, pm⟩ := id hI
  obtain ⟨eX, hI2, rfl, hTb⟩ := hT
  have hT : LT X (G 9) I (G 9) := ⟨eX, hI2, rfl, hTb⟩
  have f0 := hB.1.n2
  have f1 := hB.1.n9
  have f4 := hB.1.pc
  have f5 := hB.1.wc
  obtain ⟨x1, hx1⟩ : ∃ z, xs (i + 1) = z := ⟨_, rfl⟩
  cases hb : (wIn x1 0 1)
  · refine lv_aload_n hz.1 hz.2.1 dL_law_957 rfl (lv_at hl 1 rfl) ?_
    refine lfe (n := 1) hz hX hbl hS hl (by omega) hL hx1 (by decide) dL_law_958 dL_law_959 dL_law_960 dL_law_961 dL_law_962 ?_
    refine wrV (A := lA s_) (As := [.int x1]) (rest := []) hz (okAm tS sk sv) (c5_image_bad l_ D k a tS sk sv C F E ((G 0)) x1 hB.2 hB.1 hb) (cwV 1 hz.2.2.2.2 gL_law_X5_image rfl rfl rfl (by decide +kernel) ⟨Nat.le_of_ble_eq_true rfl, Nat.le_of_ble_eq_true rfl⟩) hK hy (p0.app p1) (D_ix ha [0, 1, 2, 3, 4, 5, 6, 7, 8] rfl (by decide) (by decide)) hS 0 5 rfl rfl rfl rfl hl.1 rfl (Nat.le_of_ble_eq_true rfl) dL_law_963 ⟨Nat.le_of_ble_eq_true rfl, Nat.le_of_ble_eq_true rfl⟩ (fun r u H1 locs hp hP1 hS hfr => ?_)
    obtain rfl : r = -2 := hp
    have p0 := hP1.left
    have hP1 := hP1.right
    have p1 := hP1
    have kp : ∀ (g_ : va_W) (jx : List Nat), g_.map (fun q => q.1) = jx.map a → (∀ j ∈ jx, j < 54) → (∀ j ∈ jx, j ∉ ([0, 1, 2, 3, 4, 5, 6, 7, 8] : List Nat)) → va_P D vwCl g_ H → va_P D vwCl g_ H1 := fun g_ jx h1 h2 h3 h4 => keepG (wc := ho a C ++ (bw a 1 k F E)) ha [0, 1, 2, 3, 4, 5, 6, 7, 8] jx rfl h1 (by decide) h2 h3 h4 hfr
    have p2 := kp _ [9, 10, 11, 12, 13, 14, 15, 16] rfl (by decide) (by decide) p2
    have p3 := kp _ [17] rfl (by decide) (by decide) p3
    have p4 := kp _ [18, 19, 20, 21, 22, 23, 24, 25] rfl (by decide) (by decide) p4
    have p5 := kp _ [26, 27, 28, 29, 30, 31, 32, 33] rfl (by decide) (by decide) p5
    have p6 := kp _ [34] rfl (by decide) (by decide) p6
    have p7 := kp _ [35, 36] rfl (by decide) (by decide) p7
    have p8 := kp _ [37, 38] rfl (by decide) (by decide) p8
    have p9 := kp _ [39, 40, 41, 42, 43, 44, 45, 46, 47, 48, 49, 50, 51, 52] rfl (by decide) (by decide) p9
    have p10 := kp _ [53] rfl (by decide) (by decide) p10
    have pm := keepX (wc := ho a C ++ (bw a 1 k F E)) (g := mw b k I J G) hab [0, 1, 2, 3, 4, 5, 6, 7, 8] [0, 1, 2, 3, 4, 5, 6, 7, 8, 9, 10, 11, 12] rfl rfl (by decide) (by decide) pm hfr
    refine lv_aload_n hz.1 hz.2.1 dL_law_966 rfl (lv_at hl 2 rfl) ?_
    refine lfe (n := 1) hz hX hbl hS hl (by omega) hL hx1 (by decide) dL_law_967 dL_law_968 dL_law_969 dL_law_970 dL_law_971 ?_
    refine wrV (A := lA s_) (As := [.int x1]) (rest := [.int (-2)]) hz okYT (c6_image_bad l_ D k b I J G x1 hb) (cwV 1 hz.2.2.2.2 gL_law_X6_image rfl rfl rfl (by decide +kernel) ⟨Nat.le_of_ble_eq_true rfl, Nat.le_of_ble_eq_true rfl⟩) hK trivial pm (D_ix hbk [0, 1, 2, 3, 4, 5, 6, 7, 8, 9, 10, 11, 12] rfl (by decide) (by decide)) hS 0 6 rfl rfl rfl rfl hl.1 rfl (Nat.le_of_ble_eq_true rfl) dL_law_972 ⟨Nat.le_of_ble_eq_true rfl, Nat.le_of_ble_eq_true rfl⟩ (fun r u H1 locs hp hP1 hS hfr => ?_)
    obtain rfl : r = -2 := hp
    have pm := hP1
    have pc_ : CPs D k a (nset C 0 (C 0 + 1)) F E Fd Ed Fp Ep Fq Eg K X ((G 9)) Z S Rr Y Nt Sl Mt Ch Q H1 := CPs.kept ⟨p0, p1, p2, p3, p4, p5, p6, p7, p8, p9, p10⟩ hba hfr
    obtain ⟨p0, p1, p2, p3, p4, p5, p6, p7, p8, p9, p10⟩ := pc_
    refine cmpE (tgt := 1063) hz (rfl) dL_law_975 (by decide) ?_
    exact hk _ _ ⟨nset C 0 (C 0 + 1), F, E, Fd, Ed, Fp, Ep, Fq, Eg, K, X, (G 9), Z, S, Rr, Y, Nt, Sl, Mt, Ch, Q, I, J, gset G 3 (sRef (G 3) 0), ⟨hB, hC.s0, hT, hQ, hM, hU⟩, ⟨p0, p1, p2, p3, p4, p5, p6, p7, p8, p9, p10⟩, pm⟩ hS ls hl
  · have hb1 := hb
    obtain ⟨j, ⟨jl, jh⟩, rfl⟩ := wIn_t (by omega) (by omega) hb1
    rcases (show j = 0 ∨ j = 1 by omega) with rfl | rfl
    · refine lv_aload_n hz.1 hz.2.1 dL_law_957 rfl (lv_at hl 1 rfl) ?_
      refine lfe (n := 1) hz hX hbl hS hl (by omega) hL hx1 (by decide) dL_law_958 dL_law_959 dL_law_960 dL_law_961 dL_law_962 ?_
      refine wrV (A := lA s_) (As := [.int (nI 0)]) (rest := []) hz (okAm tS sk sv) (c5_image_ok0 l_ D k a tS sk sv C F E Fp Ep K ((G 0)) hB.2 hB.1 ) (cwV 1 hz.2.2.2.2 gL_law_X5_image rfl rfl rfl (by decide +kernel) ⟨Nat.le_of_ble_eq_true rfl, Nat.le_of_ble_eq_true rfl⟩) hK hy (p0.app (p1.app (p3.app (p4.app p6)))) (D_ix ha [0, 1, 2, 3, 4, 5, 6, 7, 8, 17, 18, 19, 20, 21, 22, 23, 24, 25, 34] rfl (by decide) (by decide)) hS 0 5 rfl rfl rfl rfl hl.1 rfl (Nat.le_of_ble_eq_true rfl) dL_law_963 ⟨Nat.le_of_ble_eq_true rfl, Nat.le_of_ble_eq_true rfl⟩ (fun r u H1 locs hp hP1 hS hfr => ?_)
      obtain rfl : r = nI 1 := hp
      have p0 := hP1.left
      have hP1 := hP1.right
      have p1 := hP1.left
      have hP1 := hP1.right
      have p3 := hP1.left
      have hP1 := hP1.right
      have p4 := hP1.left
      have hP1 := hP1.right
      have p6 := hP1
      have kp : ∀ (g_ : va_W) (jx : List Nat), g_.map (fun q => q.1) = jx.map a → (∀ j ∈ jx, j < 54) → (∀ j ∈ jx, j ∉ ([0, 1, 2, 3, 4, 5, 6, 7, 8, 17, 18, 19, 20, 21, 22, 23, 24, 25, 34] : List Nat)) → va_P D vwCl g_ H → va_P D vwCl g_ H1 := fun g_ jx h1 h2 h3 h4 => keepG (wc := ho a C ++ (bw a 1 k F E ++ (iw a k ++ (bw a 18 k Fp Ep ++ (kw a k K))))) ha [0, 1, 2, 3, 4, 5, 6, 7, 8, 17, 18, 19, 20, 21, 22, 23, 24, 25, 34] jx rfl h1 (by decide) h2 h3 h4 hfr
      have p2 := kp _ [9, 10, 11, 12, 13, 14, 15, 16] rfl (by decide) (by decide) p2
      have p5 := kp _ [26, 27, 28, 29, 30, 31, 32, 33] rfl (by decide) (by decide) p5
      have p7 := kp _ [35, 36] rfl (by decide) (by decide) p7
      have p8 := kp _ [37, 38] rfl (by decide) (by decide) p8
      have p9 := kp _ [39, 40, 41, 42, 43, 44, 45, 46, 47, 48, 49, 50, 51, 52] rfl (by decide) (by decide) p9
      have p10 := kp _ [53] rfl (by decide) (by decide) p10
      have pm := keepX (wc := ho a C ++ (bw a 1 k F E ++ (iw a k ++ (bw a 18 k Fp Ep ++ (kw a k K))))) (g := mw b k I J G) hab [0, 1, 2, 3, 4, 5, 6, 7, 8, 17, 18, 19, 20, 21, 22, 23, 24, 25, 34] [0, 1, 2, 3, 4, 5, 6, 7, 8, 9, 10, 11, 12] rfl rfl (by decide) (by decide) pm hfr
      refine lv_aload_n hz.1 hz.2.1 dL_law_966 rfl (lv_at hl 2 rfl) ?_
      refine lfe (n := 1) hz hX hbl hS hl (by omega) hL hx1 (by decide) dL_law_967 dL_law_968 dL_law_969 dL_law_970 dL_law_971 ?_
      refine wrV (A := lA s_) (As := [.int (nI 0)]) (rest := [.int (nI 1)]) hz okYT (c6_image_ok l_ D k b I J G 0 (by decide)) (cwV 1 hz.2.2.2.2 gL_law_X6_image rfl rfl rfl (by decide +kernel) ⟨Nat.le_of_ble_eq_true rfl, Nat.le_of_ble_eq_true rfl⟩) hK trivial pm (D_ix hbk [0, 1, 2, 3, 4, 5, 6, 7, 8, 9, 10, 11, 12] rfl (by decide) (by decide)) hS 0 6 rfl rfl rfl rfl hl.1 rfl (Nat.le_of_ble_eq_true rfl) dL_law_972 ⟨Nat.le_of_ble_eq_true rfl, Nat.le_of_ble_eq_true rfl⟩ (fun r u H1 locs hp hP1 hS hfr => ?_)
      obtain rfl : r = nI 1 := hp
      have pm := hP1
      have pc_ : CPs D k a C F E Fd Ed (nset (nset (nset (nset (nset Fp 0 (F 0)) 1 (F 1)) 2 (F 2)) 3 (F 3)) 4 (F 4)) (gset (gset (gset (gset (gset (gset (gset Ep 0 (ccpy (Ep 0) (E 0) 8)) 1 (ccpy (Ep 1) (E 1) 8)) 2 (ccpy (Ep 2) (E 2) 6)) 3 (ccpy (Ep 3) (E 3) 6)) 4 (ccpy (Ep 4) (E 4) 8)) 5 (ccpy (Ep 5) (E 5) 8)) 6 (ccpy (Ep 6) (E 6) 8)) Fq Eg (nset K 0 1) X ((G 9)) Z S Rr Y Nt Sl Mt Ch Q H1 := CPs.kept ⟨p0, p1, p2, p3, p4, p5, p6, p7, p8, p9, p10⟩ hba hfr
      obtain ⟨p0, p1, p2, p3, p4, p5, p6, p7, p8, p9, p10⟩ := pc_
      refine cmpE (tgt := 1063) hz (rfl) dL_law_975 (by decide) ?_
      exact hk _ _ ⟨C, F, E, Fd, Ed, nset (nset (nset (nset (nset Fp 0 (F 0)) 1 (F 1)) 2 (F 2)) 3 (F 3)) 4 (F 4), gset (gset (gset (gset (gset (gset (gset Ep 0 (ccpy (Ep 0) (E 0) 8)) 1 (ccpy (Ep 1) (E 1) 8)) 2 (ccpy (Ep 2) (E 2) 6)) 3 (ccpy (Ep 3) (E 3) 6)) 4 (ccpy (Ep 4) (E 4) 8)) 5 (ccpy (Ep 5) (E 5) 8)) 6 (ccpy (Ep 6) (E 6) 8), Fq, Eg, nset K 0 1, X, (G 9), Z, S, Rr, Y, Nt, Sl, Mt, Ch, Q, I, J, gset (gset G 1 (cput (G 1) (G 0) (57 * 0) 57)) 2 (nset (G 2) 0 1), ⟨hB, hC, hT, hQ, ⟨rfl, hM.2.1, Or.inr ⟨rfl, hB.1.ext (fun j hj => cput_in (i := 0) hj), (hB.2.copy f5 f4).ext hB.1 (fun j hj => cput_in (i := 0) hj)⟩, hM.2.2.2.keep (fun j hj => cput_out (i := 0) (i2 := 1) (by decide) hj)⟩, hU⟩, ⟨p0, p1, p2, p3, p4, p5, p6, p7, p8, p9, p10⟩, pm⟩ hS ls hl
    · refine lv_aload_n hz.1 hz.2.1 dL_law_957 rfl (lv_at hl 1 rfl) ?_
      refine lfe (n := 1) hz hX hbl hS hl (by omega) hL hx1 (by decide) dL_law_958 dL_law_959 dL_law_960 dL_law_961 dL_law_962 ?_
      refine wrV (A := lA s_) (As := [.int (nI 1)]) (rest := []) hz (okAm tS sk sv) (c5_image_ok1 l_ D k a tS sk sv C F E Fq Eg K ((G 0)) hB.2 hB.1 ) (cwV 1 hz.2.2.2.2 gL_law_X5_image rfl rfl rfl (by decide +kernel) ⟨Nat.le_of_ble_eq_true rfl, Nat.le_of_ble_eq_true rfl⟩) hK hy (p0.app (p1.app (p3.app (p5.app p6)))) (D_ix ha [0, 1, 2, 3, 4, 5, 6, 7, 8, 17, 26, 27, 28, 29, 30, 31, 32, 33, 34] rfl (by decide) (by decide)) hS 0 5 rfl rfl rfl rfl hl.1 rfl (Nat.le_of_ble_eq_true rfl) dL_law_963 ⟨Nat.le_of_ble_eq_true rfl, Nat.le_of_ble_eq_true rfl⟩ (fun r u H1 locs hp hP1 hS hfr => ?_)
      obtain rfl : r = nI 1 := hp
      have p0 := hP1.left
      have hP1 := hP1.right
      have p1 := hP1.left
      have hP1 := hP1.right
      have p3 := hP1.left
      have hP1 := hP1.right
      have p5 := hP1.left
      have hP1 := hP1.right
      have p6 := hP1
      have kp : ∀ (g_ : va_W) (jx : List Nat), g_.map (fun q => q.1) = jx.map a → (∀ j ∈ jx, j < 54) → (∀ j ∈ jx, j ∉ ([0, 1, 2, 3, 4, 5, 6, 7, 8, 17, 26, 27, 28, 29, 30, 31, 32, 33, 34] : List Nat)) → va_P D vwCl g_ H → va_P D vwCl g_ H1 := fun g_ jx h1 h2 h3 h4 => keepG (wc := ho a C ++ (bw a 1 k F E ++ (iw a k ++ (bw a 26 k Fq Eg ++ (kw a k K))))) ha [0, 1, 2, 3, 4, 5, 6, 7, 8, 17, 26, 27, 28, 29, 30, 31, 32, 33, 34] jx rfl h1 (by decide) h2 h3 h4 hfr
      have p2 := kp _ [9, 10, 11, 12, 13, 14, 15, 16] rfl (by decide) (by decide) p2
      have p4 := kp _ [18, 19, 20, 21, 22, 23, 24, 25] rfl (by decide) (by decide) p4
      have p7 := kp _ [35, 36] rfl (by decide) (by decide) p7
      have p8 := kp _ [37, 38] rfl (by decide) (by decide) p8
      have p9 := kp _ [39, 40, 41, 42, 43, 44, 45, 46, 47, 48, 49, 50, 51, 52] rfl (by decide) (by decide) p9
      have p10 := kp _ [53] rfl (by decide) (by decide) p10
      have pm := keepX (wc := ho a C ++ (bw a 1 k F E ++ (iw a k ++ (bw a 26 k Fq Eg ++ (kw a k K))))) (g := mw b k I J G) hab [0, 1, 2, 3, 4, 5, 6, 7, 8, 17, 26, 27, 28, 29, 30, 31, 32, 33, 34] [0, 1, 2, 3, 4, 5, 6, 7, 8, 9, 10, 11, 12] rfl rfl (by decide) (by decide) pm hfr
      refine lv_aload_n hz.1 hz.2.1 dL_law_966 rfl (lv_at hl 2 rfl) ?_
      refine lfe (n := 1) hz hX hbl hS hl (by omega) hL hx1 (by decide) dL_law_967 dL_law_968 dL_law_969 dL_law_970 dL_law_971 ?_
      refine wrV (A := lA s_) (As := [.int (nI 1)]) (rest := [.int (nI 1)]) hz okYT (c6_image_ok l_ D k b I J G 1 (by decide)) (cwV 1 hz.2.2.2.2 gL_law_X6_image rfl rfl rfl (by decide +kernel) ⟨Nat.le_of_ble_eq_true rfl, Nat.le_of_ble_eq_true rfl⟩) hK trivial pm (D_ix hbk [0, 1, 2, 3, 4, 5, 6, 7, 8, 9, 10, 11, 12] rfl (by decide) (by decide)) hS 0 6 rfl rfl rfl rfl hl.1 rfl (Nat.le_of_ble_eq_true rfl) dL_law_972 ⟨Nat.le_of_ble_eq_true rfl, Nat.le_of_ble_eq_true rfl⟩ (fun r u H1 locs hp hP1 hS hfr => ?_)
      obtain rfl : r = nI 1 := hp
      have pm := hP1
      have pc_ : CPs D k a C F E Fd Ed Fp Ep (nset (nset (nset (nset (nset Fq 0 (F 0)) 1 (F 1)) 2 (F 2)) 3 (F 3)) 4 (F 4)) (gset (gset (gset (gset (gset (gset (gset Eg 0 (ccpy (Eg 0) (E 0) 8)) 1 (ccpy (Eg 1) (E 1) 8)) 2 (ccpy (Eg 2) (E 2) 6)) 3 (ccpy (Eg 3) (E 3) 6)) 4 (ccpy (Eg 4) (E 4) 8)) 5 (ccpy (Eg 5) (E 5) 8)) 6 (ccpy (Eg 6) (E 6) 8)) (nset K 1 1) X ((G 9)) Z S Rr Y Nt Sl Mt Ch Q H1 := CPs.kept ⟨p0, p1, p2, p3, p4, p5, p6, p7, p8, p9, p10⟩ hba hfr
      obtain ⟨p0, p1, p2, p3, p4, p5, p6, p7, p8, p9, p10⟩ := pc_
      refine cmpE (tgt := 1063) hz (rfl) dL_law_975 (by decide) ?_
      exact hk _ _ ⟨C, F, E, Fd, Ed, Fp, Ep, nset (nset (nset (nset (nset Fq 0 (F 0)) 1 (F 1)) 2 (F 2)) 3 (F 3)) 4 (F 4), gset (gset (gset (gset (gset (gset (gset Eg 0 (ccpy (Eg 0) (E 0) 8)) 1 (ccpy (Eg 1) (E 1) 8)) 2 (ccpy (Eg 2) (E 2) 6)) 3 (ccpy (Eg 3) (E 3) 6)) 4 (ccpy (Eg 4) (E 4) 8)) 5 (ccpy (Eg 5) (E 5) 8)) 6 (ccpy (Eg 6) (E 6) 8), nset K 1 1, X, (G 9), Z, S, Rr, Y, Nt, Sl, Mt, Ch, Q, I, J, gset (gset G 1 (cput (G 1) (G 0) (57 * 1) 57)) 2 (nset (G 2) 1 1), ⟨hB, hC, hT, hQ, ⟨hM.1, rfl, hM.2.2.1.keep (fun j hj => cput_out (i := 1) (i2 := 0) (by decide) hj), Or.inr ⟨rfl, hB.1.ext (fun j hj => cput_in (i := 1) hj), (hB.2.copy f5 f4).ext hB.1 (fun j hj => cput_in (i := 1) hj)⟩⟩, hU⟩, ⟨p0, p1, p2, p3, p4, p5, p6, p7, p8, p9, p10⟩, pm⟩ hS ls hl

set_option maxHeartbeats 4000000 in
set_option maxRecDepth 100000 in
theorem law_from {p_ : Program} {l_ : Launch} {e_ : Env} {s_ : State} {m_ : MethodId} {bl_ : List Frame} {me_ : Method} {c_ : Code} {D : va_G} {k : Nat → ClassId} {a b : Nat → Nat} {b0 L : Nat} {xs : Nat → Int32} {tS : Nat} {sk sv : Nat → Nat} {i : Nat} (E0 : LE p_ s_ m_ c_ D k a b b0 L xs tS sk sv) (hi : i + 6 ≤ L) (hk : LK p_ l_ e_ s_ m_ bl_ me_ c_ D k a b b0 i 1063) : LK p_ l_ e_ s_ m_ bl_ me_ c_ D k a b b0 i 980 := by
  obtain ⟨hz, hX, hbl, hK, hy, ha, hbk, hab, hL⟩ := E0
  have hba : ∀ i j, i < 13 → j < 54 → b i ≠ a j := fun i j h1 h2 q => hab j i h2 h1 q.symm
  intro H locs hI hS ls hl
  obtain ⟨C, F, E, Fd, Ed, Fp, Ep, Fq, Eg, K, X, T, Z, S, Rr, Y, Nt, Sl, Mt, Ch, Q, I, J, G, ⟨hB, hC, hT, hQ, hM, hU⟩, ⟨p0, p1, p2, p3, p4, p5, p6, p7, p8, p9, p10⟩, pm⟩ := id hI
  obtain ⟨eX, hI2, rfl, hTb⟩ := hT
  have hT : LT X (G 9) I (G 9) := ⟨eX, hI2, rfl, hTb⟩
  have f0 := hB.1.n2
  have f1 := hB.1.n9
  have f4 := hB.1.pc
  have f5 := hB.1.wc
  obtain ⟨x1, hx1⟩ : ∃ z, xs (i + 1) = z := ⟨_, rfl⟩
  cases hb : (wIn x1 0 1)
  · refine lv_aload_n hz.1 hz.2.1 dL_law_980 rfl (lv_at hl 1 rfl) ?_
    refine lfe (n := 1) hz hX hbl hS hl (by omega) hL hx1 (by decide) dL_law_981 dL_law_982 dL_law_983 dL_law_984 dL_law_985 ?_
    refine wrV (A := lA s_) (As := [.int x1]) (rest := []) hz (okAm tS sk sv) (c5_from_bad l_ D k a tS sk sv C F E ((G 0)) x1 hB.2 hB.1 hb) (cwV 1 hz.2.2.2.2 gL_law_X5_from rfl rfl rfl (by decide +kernel) ⟨Nat.le_of_ble_eq_true rfl, Nat.le_of_ble_eq_true rfl⟩) hK hy (p0.app p1) (D_ix ha [0, 1, 2, 3, 4, 5, 6, 7, 8] rfl (by decide) (by decide)) hS 0 5 rfl rfl rfl rfl hl.1 rfl (Nat.le_of_ble_eq_true rfl) dL_law_986 ⟨Nat.le_of_ble_eq_true rfl, Nat.le_of_ble_eq_true rfl⟩ (fun r u H1 locs hp hP1 hS hfr => ?_)
    obtain rfl : r = -2 := hp
    have p0 := hP1.left
    have hP1 := hP1.right
    have p1 := hP1
    have kp : ∀ (g_ : va_W) (jx : List Nat), g_.map (fun q => q.1) = jx.map a → (∀ j ∈ jx, j < 54) → (∀ j ∈ jx, j ∉ ([0, 1, 2, 3, 4, 5, 6, 7, 8] : List Nat)) → va_P D vwCl g_ H → va_P D vwCl g_ H1 := fun g_ jx h1 h2 h3 h4 => keepG (wc := ho a C ++ (bw a 1 k F E)) ha [0, 1, 2, 3, 4, 5, 6, 7, 8] jx rfl h1 (by decide) h2 h3 h4 hfr
    have p2 := kp _ [9, 10, 11, 12, 13, 14, 15, 16] rfl (by decide) (by decide) p2
    have p3 := kp _ [17] rfl (by decide) (by decide) p3
    have p4 := kp _ [18, 19, 20, 21, 22, 23, 24, 25] rfl (by decide) (by decide) p4
    have p5 := kp _ [26, 27, 28, 29, 30, 31, 32, 33] rfl (by decide) (by decide) p5
    have p6 := kp _ [34] rfl (by decide) (by decide) p6
    have p7 := kp _ [35, 36] rfl (by decide) (by decide) p7
    have p8 := kp _ [37, 38] rfl (by decide) (by decide) p8
    have p9 := kp _ [39, 40, 41, 42, 43, 44, 45, 46, 47, 48, 49, 50, 51, 52] rfl (by decide) (by decide) p9
    have p10 := kp _ [53] rfl (by decide) (by decide) p10
    have pm := keepX (wc := ho a C ++ (bw a 1 k F E)) (g := mw b k I J G) hab [0, 1, 2, 3, 4, 5, 6, 7, 8] [0, 1, 2, 3, 4, 5, 6, 7, 8, 9, 10, 11, 12] rfl rfl (by decide) (by decide) pm hfr
    refine lv_aload_n hz.1 hz.2.1 dL_law_989 rfl (lv_at hl 2 rfl) ?_
    refine lfe (n := 1) hz hX hbl hS hl (by omega) hL hx1 (by decide) dL_law_990 dL_law_991 dL_law_992 dL_law_993 dL_law_994 ?_
    refine wrV (A := lA s_) (As := [.int x1]) (rest := [.int (-2)]) hz okYT (c6_from_bad l_ D k b I J G x1 hb) (cwV 1 hz.2.2.2.2 gL_law_X6_from rfl rfl rfl (by decide +kernel) ⟨Nat.le_of_ble_eq_true rfl, Nat.le_of_ble_eq_true rfl⟩) hK trivial pm (D_ix hbk [0, 1, 2, 3, 4, 5, 6, 7, 8, 9, 10, 11, 12] rfl (by decide) (by decide)) hS 0 6 rfl rfl rfl rfl hl.1 rfl (Nat.le_of_ble_eq_true rfl) dL_law_995 ⟨Nat.le_of_ble_eq_true rfl, Nat.le_of_ble_eq_true rfl⟩ (fun r u H1 locs hp hP1 hS hfr => ?_)
    obtain rfl : r = -2 := hp
    have pm := hP1
    have pc_ : CPs D k a (nset C 0 (C 0 + 1)) F E Fd Ed Fp Ep Fq Eg K X ((G 9)) Z S Rr Y Nt Sl Mt Ch Q H1 := CPs.kept ⟨p0, p1, p2, p3, p4, p5, p6, p7, p8, p9, p10⟩ hba hfr
    obtain ⟨p0, p1, p2, p3, p4, p5, p6, p7, p8, p9, p10⟩ := pc_
    refine cmpE (tgt := 1063) hz (rfl) dL_law_998 (by decide) ?_
    exact hk _ _ ⟨nset C 0 (C 0 + 1), F, E, Fd, Ed, Fp, Ep, Fq, Eg, K, X, (G 9), Z, S, Rr, Y, Nt, Sl, Mt, Ch, Q, I, J, gset G 3 (sRef (G 3) 0), ⟨hB, hC.s0, hT, hQ, hM, hU⟩, ⟨p0, p1, p2, p3, p4, p5, p6, p7, p8, p9, p10⟩, pm⟩ hS ls hl
  · have hb1 := hb
    obtain ⟨j, ⟨jl, jh⟩, rfl⟩ := wIn_t (by omega) (by omega) hb1
    rcases (show j = 0 ∨ j = 1 by omega) with rfl | rfl
    · rcases hM.2.2.1 with hg | hg
      · refine lv_aload_n hz.1 hz.2.1 dL_law_980 rfl (lv_at hl 1 rfl) ?_
        refine lfe (n := 1) hz hX hbl hS hl (by omega) hL hx1 (by decide) dL_law_981 dL_law_982 dL_law_983 dL_law_984 dL_law_985 ?_
        refine wrV (A := lA s_) (As := [.int (nI 0)]) (rest := []) hz (okAm tS sk sv) (c5_from_no0 l_ D k a tS sk sv C F E Fp Ep K ((G 0)) hB.2 hB.1 (hM.1.trans hg)) (cwV 1 hz.2.2.2.2 gL_law_X5_from rfl rfl rfl (by decide +kernel) ⟨Nat.le_of_ble_eq_true rfl, Nat.le_of_ble_eq_true rfl⟩) hK hy (p0.app (p1.app (p3.app (p4.app p6)))) (D_ix ha [0, 1, 2, 3, 4, 5, 6, 7, 8, 17, 18, 19, 20, 21, 22, 23, 24, 25, 34] rfl (by decide) (by decide)) hS 0 5 rfl rfl rfl rfl hl.1 rfl (Nat.le_of_ble_eq_true rfl) dL_law_986 ⟨Nat.le_of_ble_eq_true rfl, Nat.le_of_ble_eq_true rfl⟩ (fun r u H1 locs hp hP1 hS hfr => ?_)
        obtain rfl : r = -3 := hp
        have p0 := hP1.left
        have hP1 := hP1.right
        have p1 := hP1.left
        have hP1 := hP1.right
        have p3 := hP1.left
        have hP1 := hP1.right
        have p4 := hP1.left
        have hP1 := hP1.right
        have p6 := hP1
        have kp : ∀ (g_ : va_W) (jx : List Nat), g_.map (fun q => q.1) = jx.map a → (∀ j ∈ jx, j < 54) → (∀ j ∈ jx, j ∉ ([0, 1, 2, 3, 4, 5, 6, 7, 8, 17, 18, 19, 20, 21, 22, 23, 24, 25, 34] : List Nat)) → va_P D vwCl g_ H → va_P D vwCl g_ H1 := fun g_ jx h1 h2 h3 h4 => keepG (wc := ho a C ++ (bw a 1 k F E ++ (iw a k ++ (bw a 18 k Fp Ep ++ (kw a k K))))) ha [0, 1, 2, 3, 4, 5, 6, 7, 8, 17, 18, 19, 20, 21, 22, 23, 24, 25, 34] jx rfl h1 (by decide) h2 h3 h4 hfr
        have p2 := kp _ [9, 10, 11, 12, 13, 14, 15, 16] rfl (by decide) (by decide) p2
        have p5 := kp _ [26, 27, 28, 29, 30, 31, 32, 33] rfl (by decide) (by decide) p5
        have p7 := kp _ [35, 36] rfl (by decide) (by decide) p7
        have p8 := kp _ [37, 38] rfl (by decide) (by decide) p8
        have p9 := kp _ [39, 40, 41, 42, 43, 44, 45, 46, 47, 48, 49, 50, 51, 52] rfl (by decide) (by decide) p9
        have p10 := kp _ [53] rfl (by decide) (by decide) p10
        have pm := keepX (wc := ho a C ++ (bw a 1 k F E ++ (iw a k ++ (bw a 18 k Fp Ep ++ (kw a k K))))) (g := mw b k I J G) hab [0, 1, 2, 3, 4, 5, 6, 7, 8, 17, 18, 19, 20, 21, 22, 23, 24, 25, 34] [0, 1, 2, 3, 4, 5, 6, 7, 8, 9, 10, 11, 12] rfl rfl (by decide) (by decide) pm hfr
        refine lv_aload_n hz.1 hz.2.1 dL_law_989 rfl (lv_at hl 2 rfl) ?_
        refine lfe (n := 1) hz hX hbl hS hl (by omega) hL hx1 (by decide) dL_law_990 dL_law_991 dL_law_992 dL_law_993 dL_law_994 ?_
        refine wrV (A := lA s_) (As := [.int (nI 0)]) (rest := [.int (-3)]) hz okYT (c6_from_no l_ D k b I J G 0 (by decide) hg) (cwV 1 hz.2.2.2.2 gL_law_X6_from rfl rfl rfl (by decide +kernel) ⟨Nat.le_of_ble_eq_true rfl, Nat.le_of_ble_eq_true rfl⟩) hK trivial pm (D_ix hbk [0, 1, 2, 3, 4, 5, 6, 7, 8, 9, 10, 11, 12] rfl (by decide) (by decide)) hS 0 6 rfl rfl rfl rfl hl.1 rfl (Nat.le_of_ble_eq_true rfl) dL_law_995 ⟨Nat.le_of_ble_eq_true rfl, Nat.le_of_ble_eq_true rfl⟩ (fun r u H1 locs hp hP1 hS hfr => ?_)
        obtain rfl : r = -3 := hp
        have pm := hP1
        have pc_ : CPs D k a (nset C 1 (C 1 + 1)) F E Fd Ed Fp Ep Fq Eg K X ((G 9)) Z S Rr Y Nt Sl Mt Ch Q H1 := CPs.kept ⟨p0, p1, p2, p3, p4, p5, p6, p7, p8, p9, p10⟩ hba hfr
        obtain ⟨p0, p1, p2, p3, p4, p5, p6, p7, p8, p9, p10⟩ := pc_
        refine cmpE (tgt := 1063) hz (rfl) dL_law_998 (by decide) ?_
        exact hk _ _ ⟨nset C 1 (C 1 + 1), F, E, Fd, Ed, Fp, Ep, Fq, Eg, K, X, (G 9), Z, S, Rr, Y, Nt, Sl, Mt, Ch, Q, I, J, gset G 3 (sRef (G 3) 1), ⟨hB, hC.s1, hT, hQ, hM, hU⟩, ⟨p0, p1, p2, p3, p4, p5, p6, p7, p8, p9, p10⟩, pm⟩ hS ls hl
      · obtain ⟨hg1, hg2, hg3⟩ := hg
        refine lv_aload_n hz.1 hz.2.1 dL_law_980 rfl (lv_at hl 1 rfl) ?_
        refine lfe (n := 1) hz hX hbl hS hl (by omega) hL hx1 (by decide) dL_law_981 dL_law_982 dL_law_983 dL_law_984 dL_law_985 ?_
        refine wrV (A := lA s_) (As := [.int (nI 0)]) (rest := []) hz (okAm tS sk sv) (c5_from_ok0 l_ D k a tS sk sv C F E Fp Ep K ((G 0)) hB.2 hB.1 (hM.1.trans hg1)) (cwV 1 hz.2.2.2.2 gL_law_X5_from rfl rfl rfl (by decide +kernel) ⟨Nat.le_of_ble_eq_true rfl, Nat.le_of_ble_eq_true rfl⟩) hK hy (p0.app (p1.app (p3.app (p4.app p6)))) (D_ix ha [0, 1, 2, 3, 4, 5, 6, 7, 8, 17, 18, 19, 20, 21, 22, 23, 24, 25, 34] rfl (by decide) (by decide)) hS 0 5 rfl rfl rfl rfl hl.1 rfl (Nat.le_of_ble_eq_true rfl) dL_law_986 ⟨Nat.le_of_ble_eq_true rfl, Nat.le_of_ble_eq_true rfl⟩ (fun r u H1 locs hp hP1 hS hfr => ?_)
        obtain rfl : r = nI 1 := hp
        have p0 := hP1.left
        have hP1 := hP1.right
        have p1 := hP1.left
        have hP1 := hP1.right
        have p3 := hP1.left
        have hP1 := hP1.right
        have p4 := hP1.left
        have hP1 := hP1.right
        have p6 := hP1
        have kp : ∀ (g_ : va_W) (jx : List Nat), g_.map (fun q => q.1) = jx.map a → (∀ j ∈ jx, j < 54) → (∀ j ∈ jx, j ∉ ([0, 1, 2, 3, 4, 5, 6, 7, 8, 17, 18, 19, 20, 21, 22, 23, 24, 25, 34] : List Nat)) → va_P D vwCl g_ H → va_P D vwCl g_ H1 := fun g_ jx h1 h2 h3 h4 => keepG (wc := ho a C ++ (bw a 1 k F E ++ (iw a k ++ (bw a 18 k Fp Ep ++ (kw a k K))))) ha [0, 1, 2, 3, 4, 5, 6, 7, 8, 17, 18, 19, 20, 21, 22, 23, 24, 25, 34] jx rfl h1 (by decide) h2 h3 h4 hfr
        have p2 := kp _ [9, 10, 11, 12, 13, 14, 15, 16] rfl (by decide) (by decide) p2
        have p5 := kp _ [26, 27, 28, 29, 30, 31, 32, 33] rfl (by decide) (by decide) p5
        have p7 := kp _ [35, 36] rfl (by decide) (by decide) p7
        have p8 := kp _ [37, 38] rfl (by decide) (by decide) p8
        have p9 := kp _ [39, 40, 41, 42, 43, 44, 45, 46, 47, 48, 49, 50, 51, 52] rfl (by decide) (by decide) p9
        have p10 := kp _ [53] rfl (by decide) (by decide) p10
        have pm := keepX (wc := ho a C ++ (bw a 1 k F E ++ (iw a k ++ (bw a 18 k Fp Ep ++ (kw a k K))))) (g := mw b k I J G) hab [0, 1, 2, 3, 4, 5, 6, 7, 8, 17, 18, 19, 20, 21, 22, 23, 24, 25, 34] [0, 1, 2, 3, 4, 5, 6, 7, 8, 9, 10, 11, 12] rfl rfl (by decide) (by decide) pm hfr
        refine lv_aload_n hz.1 hz.2.1 dL_law_989 rfl (lv_at hl 2 rfl) ?_
        refine lfe (n := 1) hz hX hbl hS hl (by omega) hL hx1 (by decide) dL_law_990 dL_law_991 dL_law_992 dL_law_993 dL_law_994 ?_
        refine wrV (A := lA s_) (As := [.int (nI 0)]) (rest := [.int (nI 1)]) hz okYT (c6_from_ok l_ D k b I J G 0 (by decide) hg1) (cwV 1 hz.2.2.2.2 gL_law_X6_from rfl rfl rfl (by decide +kernel) ⟨Nat.le_of_ble_eq_true rfl, Nat.le_of_ble_eq_true rfl⟩) hK trivial pm (D_ix hbk [0, 1, 2, 3, 4, 5, 6, 7, 8, 9, 10, 11, 12] rfl (by decide) (by decide)) hS 0 6 rfl rfl rfl rfl hl.1 rfl (Nat.le_of_ble_eq_true rfl) dL_law_995 ⟨Nat.le_of_ble_eq_true rfl, Nat.le_of_ble_eq_true rfl⟩ (fun r u H1 locs hp hP1 hS hfr => ?_)
        obtain rfl : r = nI 1 := hp
        have pm := hP1
        have pc_ : CPs D k a C (nset (nset (nset (nset (nset F 0 (Fp 0)) 1 (Fp 1)) 2 (Fp 2)) 3 (Fp 3)) 4 (Fp 4)) (gset (gset (gset (gset (gset (gset (gset E 0 (ccpy (E 0) (Ep 0) 8)) 1 (ccpy (E 1) (Ep 1) 8)) 2 (ccpy (E 2) (Ep 2) 6)) 3 (ccpy (E 3) (Ep 3) 6)) 4 (ccpy (E 4) (Ep 4) 8)) 5 (ccpy (E 5) (Ep 5) 8)) 6 (ccpy (E 6) (Ep 6) 8)) Fd Ed Fp Ep Fq Eg K X ((G 9)) Z S Rr Y Nt Sl Mt Ch Q H1 := CPs.kept ⟨p0, p1, p2, p3, p4, p5, p6, p7, p8, p9, p10⟩ hba hfr
        obtain ⟨p0, p1, p2, p3, p4, p5, p6, p7, p8, p9, p10⟩ := pc_
        refine cmpE (tgt := 1063) hz (rfl) dL_law_998 (by decide) ?_
        exact hk _ _ ⟨C, nset (nset (nset (nset (nset F 0 (Fp 0)) 1 (Fp 1)) 2 (Fp 2)) 3 (Fp 3)) 4 (Fp 4), gset (gset (gset (gset (gset (gset (gset E 0 (ccpy (E 0) (Ep 0) 8)) 1 (ccpy (E 1) (Ep 1) 8)) 2 (ccpy (E 2) (Ep 2) 6)) 3 (ccpy (E 3) (Ep 3) 6)) 4 (ccpy (E 4) (Ep 4) 8)) 5 (ccpy (E 5) (Ep 5) 8)) 6 (ccpy (E 6) (Ep 6) 8), Fd, Ed, Fp, Ep, Fq, Eg, K, X, (G 9), Z, S, Rr, Y, Nt, Sl, Mt, Ch, Q, I, J, gset G 0 (cget (G 0) (G 1) (57 * 0) 57), ⟨⟨hg2.ext (fun j hj => cget_in hj), (hg3.copy hg2.wc hg2.pc).ext hg2 (fun j hj => cget_in hj)⟩, hC, hT, hQ, hM, hU⟩, ⟨p0, p1, p2, p3, p4, p5, p6, p7, p8, p9, p10⟩, pm⟩ hS ls hl
    · rcases hM.2.2.2 with hg | hg
      · refine lv_aload_n hz.1 hz.2.1 dL_law_980 rfl (lv_at hl 1 rfl) ?_
        refine lfe (n := 1) hz hX hbl hS hl (by omega) hL hx1 (by decide) dL_law_981 dL_law_982 dL_law_983 dL_law_984 dL_law_985 ?_
        refine wrV (A := lA s_) (As := [.int (nI 1)]) (rest := []) hz (okAm tS sk sv) (c5_from_no1 l_ D k a tS sk sv C F E Fq Eg K ((G 0)) hB.2 hB.1 (hM.2.1.trans hg)) (cwV 1 hz.2.2.2.2 gL_law_X5_from rfl rfl rfl (by decide +kernel) ⟨Nat.le_of_ble_eq_true rfl, Nat.le_of_ble_eq_true rfl⟩) hK hy (p0.app (p1.app (p3.app (p5.app p6)))) (D_ix ha [0, 1, 2, 3, 4, 5, 6, 7, 8, 17, 26, 27, 28, 29, 30, 31, 32, 33, 34] rfl (by decide) (by decide)) hS 0 5 rfl rfl rfl rfl hl.1 rfl (Nat.le_of_ble_eq_true rfl) dL_law_986 ⟨Nat.le_of_ble_eq_true rfl, Nat.le_of_ble_eq_true rfl⟩ (fun r u H1 locs hp hP1 hS hfr => ?_)
        obtain rfl : r = -3 := hp
        have p0 := hP1.left
        have hP1 := hP1.right
        have p1 := hP1.left
        have hP1 := hP1.right
        have p3 := hP1.left
        have hP1 := hP1.right
        have p5 := hP1.left
        have hP1 := hP1.right
        have p6 := hP1
        have kp : ∀ (g_ : va_W) (jx : List Nat), g_.map (fun q => q.1) = jx.map a → (∀ j ∈ jx, j < 54) → (∀ j ∈ jx, j ∉ ([0, 1, 2, 3, 4, 5, 6, 7, 8, 17, 26, 27, 28, 29, 30, 31, 32, 33, 34] : List Nat)) → va_P D vwCl g_ H → va_P D vwCl g_ H1 := fun g_ jx h1 h2 h3 h4 => keepG (wc := ho a C ++ (bw a 1 k F E ++ (iw a k ++ (bw a 26 k Fq Eg ++ (kw a k K))))) ha [0, 1, 2, 3, 4, 5, 6, 7, 8, 17, 26, 27, 28, 29, 30, 31, 32, 33, 34] jx rfl h1 (by decide) h2 h3 h4 hfr
        have p2 := kp _ [9, 10, 11, 12, 13, 14, 15, 16] rfl (by decide) (by decide) p2
        have p4 := kp _ [18, 19, 20, 21, 22, 23, 24, 25] rfl (by decide) (by decide) p4
        have p7 := kp _ [35, 36] rfl (by decide) (by decide) p7
        have p8 := kp _ [37, 38] rfl (by decide) (by decide) p8
        have p9 := kp _ [39, 40, 41, 42, 43, 44, 45, 46, 47, 48, 49, 50, 51, 52] rfl (by decide) (by decide) p9
        have p10 := kp _ [53] rfl (by decide) (by decide) p10
        have pm := keepX (wc := ho a C ++ (bw a 1 k F E ++ (iw a k ++ (bw a 26 k Fq Eg ++ (kw a k K))))) (g := mw b k I J G) hab [0, 1, 2, 3, 4, 5, 6, 7, 8, 17, 26, 27, 28, 29, 30, 31, 32, 33, 34] [0, 1, 2, 3, 4, 5, 6, 7, 8, 9, 10, 11, 12] rfl rfl (by decide) (by decide) pm hfr
        refine lv_aload_n hz.1 hz.2.1 dL_law_989 rfl (lv_at hl 2 rfl) ?_
        refine lfe (n := 1) hz hX hbl hS hl (by omega) hL hx1 (by decide) dL_law_990 dL_law_991 dL_law_992 dL_law_993 dL_law_994 ?_
        refine wrV (A := lA s_) (As := [.int (nI 1)]) (rest := [.int (-3)]) hz okYT (c6_from_no l_ D k b I J G 1 (by decide) hg) (cwV 1 hz.2.2.2.2 gL_law_X6_from rfl rfl rfl (by decide +kernel) ⟨Nat.le_of_ble_eq_true rfl, Nat.le_of_ble_eq_true rfl⟩) hK trivial pm (D_ix hbk [0, 1, 2, 3, 4, 5, 6, 7, 8, 9, 10, 11, 12] rfl (by decide) (by decide)) hS 0 6 rfl rfl rfl rfl hl.1 rfl (Nat.le_of_ble_eq_true rfl) dL_law_995 ⟨Nat.le_of_ble_eq_true rfl, Nat.le_of_ble_eq_true rfl⟩ (fun r u H1 locs hp hP1 hS hfr => ?_)
        obtain rfl : r = -3 := hp
        have pm := hP1
        have pc_ : CPs D k a (nset C 1 (C 1 + 1)) F E Fd Ed Fp Ep Fq Eg K X ((G 9)) Z S Rr Y Nt Sl Mt Ch Q H1 := CPs.kept ⟨p0, p1, p2, p3, p4, p5, p6, p7, p8, p9, p10⟩ hba hfr
        obtain ⟨p0, p1, p2, p3, p4, p5, p6, p7, p8, p9, p10⟩ := pc_
        refine cmpE (tgt := 1063) hz (rfl) dL_law_998 (by decide) ?_
        exact hk _ _ ⟨nset C 1 (C 1 + 1), F, E, Fd, Ed, Fp, Ep, Fq, Eg, K, X, (G 9), Z, S, Rr, Y, Nt, Sl, Mt, Ch, Q, I, J, gset G 3 (sRef (G 3) 1), ⟨hB, hC.s1, hT, hQ, hM, hU⟩, ⟨p0, p1, p2, p3, p4, p5, p6, p7, p8, p9, p10⟩, pm⟩ hS ls hl
      · obtain ⟨hg1, hg2, hg3⟩ := hg
        refine lv_aload_n hz.1 hz.2.1 dL_law_980 rfl (lv_at hl 1 rfl) ?_
        refine lfe (n := 1) hz hX hbl hS hl (by omega) hL hx1 (by decide) dL_law_981 dL_law_982 dL_law_983 dL_law_984 dL_law_985 ?_
        refine wrV (A := lA s_) (As := [.int (nI 1)]) (rest := []) hz (okAm tS sk sv) (c5_from_ok1 l_ D k a tS sk sv C F E Fq Eg K ((G 0)) hB.2 hB.1 (hM.2.1.trans hg1)) (cwV 1 hz.2.2.2.2 gL_law_X5_from rfl rfl rfl (by decide +kernel) ⟨Nat.le_of_ble_eq_true rfl, Nat.le_of_ble_eq_true rfl⟩) hK hy (p0.app (p1.app (p3.app (p5.app p6)))) (D_ix ha [0, 1, 2, 3, 4, 5, 6, 7, 8, 17, 26, 27, 28, 29, 30, 31, 32, 33, 34] rfl (by decide) (by decide)) hS 0 5 rfl rfl rfl rfl hl.1 rfl (Nat.le_of_ble_eq_true rfl) dL_law_986 ⟨Nat.le_of_ble_eq_true rfl, Nat.le_of_ble_eq_true rfl⟩ (fun r u H1 locs hp hP1 hS hfr => ?_)
        obtain rfl : r = nI 1 := hp
        have p0 := hP1.left
        have hP1 := hP1.right
        have p1 := hP1.left
        have hP1 := hP1.right
        have p3 := hP1.left
        have hP1 := hP1.right
        have p5 := hP1.left
        have hP1 := hP1.right
        have p6 := hP1
        have kp : ∀ (g_ : va_W) (jx : List Nat), g_.map (fun q => q.1) = jx.map a → (∀ j ∈ jx, j < 54) → (∀ j ∈ jx, j ∉ ([0, 1, 2, 3, 4, 5, 6, 7, 8, 17, 26, 27, 28, 29, 30, 31, 32, 33, 34] : List Nat)) → va_P D vwCl g_ H → va_P D vwCl g_ H1 := fun g_ jx h1 h2 h3 h4 => keepG (wc := ho a C ++ (bw a 1 k F E ++ (iw a k ++ (bw a 26 k Fq Eg ++ (kw a k K))))) ha [0, 1, 2, 3, 4, 5, 6, 7, 8, 17, 26, 27, 28, 29, 30, 31, 32, 33, 34] jx rfl h1 (by decide) h2 h3 h4 hfr
        have p2 := kp _ [9, 10, 11, 12, 13, 14, 15, 16] rfl (by decide) (by decide) p2
        have p4 := kp _ [18, 19, 20, 21, 22, 23, 24, 25] rfl (by decide) (by decide) p4
        have p7 := kp _ [35, 36] rfl (by decide) (by decide) p7
        have p8 := kp _ [37, 38] rfl (by decide) (by decide) p8
        have p9 := kp _ [39, 40, 41, 42, 43, 44, 45, 46, 47, 48, 49, 50, 51, 52] rfl (by decide) (by decide) p9
        have p10 := kp _ [53] rfl (by decide) (by decide) p10
        have pm := keepX (wc := ho a C ++ (bw a 1 k F E ++ (iw a k ++ (bw a 26 k Fq Eg ++ (kw a k K))))) (g := mw b k I J G) hab [0, 1, 2, 3, 4, 5, 6, 7, 8, 17, 26, 27, 28, 29, 30, 31, 32, 33, 34] [0, 1, 2, 3, 4, 5, 6, 7, 8, 9, 10, 11, 12] rfl rfl (by decide) (by decide) pm hfr
        refine lv_aload_n hz.1 hz.2.1 dL_law_989 rfl (lv_at hl 2 rfl) ?_
        refine lfe (n := 1) hz hX hbl hS hl (by omega) hL hx1 (by decide) dL_law_990 dL_law_991 dL_law_992 dL_law_993 dL_law_994 ?_
        refine wrV (A := lA s_) (As := [.int (nI 1)]) (rest := [.int (nI 1)]) hz okYT (c6_from_ok l_ D k b I J G 1 (by decide) hg1) (cwV 1 hz.2.2.2.2 gL_law_X6_from rfl rfl rfl (by decide +kernel) ⟨Nat.le_of_ble_eq_true rfl, Nat.le_of_ble_eq_true rfl⟩) hK trivial pm (D_ix hbk [0, 1, 2, 3, 4, 5, 6, 7, 8, 9, 10, 11, 12] rfl (by decide) (by decide)) hS 0 6 rfl rfl rfl rfl hl.1 rfl (Nat.le_of_ble_eq_true rfl) dL_law_995 ⟨Nat.le_of_ble_eq_true rfl, Nat.le_of_ble_eq_true rfl⟩ (fun r u H1 locs hp hP1 hS hfr => ?_)
        obtain rfl : r = nI 1 := hp
        have pm := hP1
        have pc_ : CPs D k a C (nset (nset (nset (nset (nset F 0 (Fq 0)) 1 (Fq 1)) 2 (Fq 2)) 3 (Fq 3)) 4 (Fq 4)) (gset (gset (gset (gset (gset (gset (gset E 0 (ccpy (E 0) (Eg 0) 8)) 1 (ccpy (E 1) (Eg 1) 8)) 2 (ccpy (E 2) (Eg 2) 6)) 3 (ccpy (E 3) (Eg 3) 6)) 4 (ccpy (E 4) (Eg 4) 8)) 5 (ccpy (E 5) (Eg 5) 8)) 6 (ccpy (E 6) (Eg 6) 8)) Fd Ed Fp Ep Fq Eg K X ((G 9)) Z S Rr Y Nt Sl Mt Ch Q H1 := CPs.kept ⟨p0, p1, p2, p3, p4, p5, p6, p7, p8, p9, p10⟩ hba hfr
        obtain ⟨p0, p1, p2, p3, p4, p5, p6, p7, p8, p9, p10⟩ := pc_
        refine cmpE (tgt := 1063) hz (rfl) dL_law_998 (by decide) ?_
        exact hk _ _ ⟨C, nset (nset (nset (nset (nset F 0 (Fq 0)) 1 (Fq 1)) 2 (Fq 2)) 3 (Fq 3)) 4 (Fq 4), gset (gset (gset (gset (gset (gset (gset E 0 (ccpy (E 0) (Eg 0) 8)) 1 (ccpy (E 1) (Eg 1) 8)) 2 (ccpy (E 2) (Eg 2) 6)) 3 (ccpy (E 3) (Eg 3) 6)) 4 (ccpy (E 4) (Eg 4) 8)) 5 (ccpy (E 5) (Eg 5) 8)) 6 (ccpy (E 6) (Eg 6) 8), Fd, Ed, Fp, Ep, Fq, Eg, K, X, (G 9), Z, S, Rr, Y, Nt, Sl, Mt, Ch, Q, I, J, gset G 0 (cget (G 0) (G 1) (57 * 1) 57), ⟨⟨hg2.ext (fun j hj => cget_in hj), (hg3.copy hg2.wc hg2.pc).ext hg2 (fun j hj => cget_in hj)⟩, hC, hT, hQ, hM, hU⟩, ⟨p0, p1, p2, p3, p4, p5, p6, p7, p8, p9, p10⟩, pm⟩ hS ls hl

set_option maxHeartbeats 4000000 in
set_option maxRecDepth 100000 in
theorem law_status {p_ : Program} {l_ : Launch} {e_ : Env} {s_ : State} {m_ : MethodId} {bl_ : List Frame} {me_ : Method} {c_ : Code} {D : va_G} {k : Nat → ClassId} {a b : Nat → Nat} {b0 L : Nat} {xs : Nat → Int32} {tS : Nat} {sk sv : Nat → Nat} {i : Nat} (E0 : LE p_ s_ m_ c_ D k a b b0 L xs tS sk sv) (hi : i + 6 ≤ L) (hk : LK p_ l_ e_ s_ m_ bl_ me_ c_ D k a b b0 i 1063) : LK p_ l_ e_ s_ m_ bl_ me_ c_ D k a b b0 i 1003 := by
  obtain ⟨hz, hX, hbl, hK, hy, ha, hbk, hab, hL⟩ := E0
  have hba : ∀ i j, i < 13 → j < 54 → b i ≠ a j := fun i j h1 h2 q => hab j i h2 h1 q.symm
  intro H locs hI hS ls hl
  obtain ⟨C, F, E, Fd, Ed, Fp, Ep, Fq, Eg, K, X, T, Z, S, Rr, Y, Nt, Sl, Mt, Ch, Q, I, J, G, ⟨hB, hC, hT, hQ, hM, hU⟩, ⟨p0, p1, p2, p3, p4, p5, p6, p7, p8, p9, p10⟩, pm⟩ := id hI
  obtain ⟨eX, hI2, rfl, hTb⟩ := hT
  have hT : LT X (G 9) I (G 9) := ⟨eX, hI2, rfl, hTb⟩
  have f0 := hB.1.n2
  have f1 := hB.1.n9
  have f4 := hB.1.pc
  have f5 := hB.1.wc
  obtain ⟨x1, hx1⟩ : ∃ z, xs (i + 1) = z := ⟨_, rfl⟩
  cases hb : (wIn x1 0 2)
  · refine lv_aload_n hz.1 hz.2.1 dL_law_1003 rfl (lv_at hl 1 rfl) ?_
    refine lfe (n := 1) hz hX hbl hS hl (by omega) hL hx1 (by decide) dL_law_1004 dL_law_1005 dL_law_1006 dL_law_1007 dL_law_1008 ?_
    refine wrV (A := lA s_) (As := [.int x1]) (rest := []) hz (okAm tS sk sv) (c5_status_bad l_ D k a tS sk sv C F E ((G 0)) x1 hB.2 hB.1 hb) (cwV 1 hz.2.2.2.2 gL_law_X5_status rfl rfl rfl (by decide +kernel) ⟨Nat.le_of_ble_eq_true rfl, Nat.le_of_ble_eq_true rfl⟩) hK hy (p0.app p1) (D_ix ha [0, 1, 2, 3, 4, 5, 6, 7, 8] rfl (by decide) (by decide)) hS 0 5 rfl rfl rfl rfl hl.1 rfl (Nat.le_of_ble_eq_true rfl) dL_law_1009 ⟨Nat.le_of_ble_eq_true rfl, Nat.le_of_ble_eq_true rfl⟩ (fun r u H1 locs hp hP1 hS hfr => ?_)
    obtain rfl : r = -1 := hp
    have p0 := hP1.left
    have hP1 := hP1.right
    have p1 := hP1
    have kp : ∀ (g_ : va_W) (jx : List Nat), g_.map (fun q => q.1) = jx.map a → (∀ j ∈ jx, j < 54) → (∀ j ∈ jx, j ∉ ([0, 1, 2, 3, 4, 5, 6, 7, 8] : List Nat)) → va_P D vwCl g_ H → va_P D vwCl g_ H1 := fun g_ jx h1 h2 h3 h4 => keepG (wc := ho a C ++ (bw a 1 k F E)) ha [0, 1, 2, 3, 4, 5, 6, 7, 8] jx rfl h1 (by decide) h2 h3 h4 hfr
    have p2 := kp _ [9, 10, 11, 12, 13, 14, 15, 16] rfl (by decide) (by decide) p2
    have p3 := kp _ [17] rfl (by decide) (by decide) p3
    have p4 := kp _ [18, 19, 20, 21, 22, 23, 24, 25] rfl (by decide) (by decide) p4
    have p5 := kp _ [26, 27, 28, 29, 30, 31, 32, 33] rfl (by decide) (by decide) p5
    have p6 := kp _ [34] rfl (by decide) (by decide) p6
    have p7 := kp _ [35, 36] rfl (by decide) (by decide) p7
    have p8 := kp _ [37, 38] rfl (by decide) (by decide) p8
    have p9 := kp _ [39, 40, 41, 42, 43, 44, 45, 46, 47, 48, 49, 50, 51, 52] rfl (by decide) (by decide) p9
    have p10 := kp _ [53] rfl (by decide) (by decide) p10
    have pm := keepX (wc := ho a C ++ (bw a 1 k F E)) (g := mw b k I J G) hab [0, 1, 2, 3, 4, 5, 6, 7, 8] [0, 1, 2, 3, 4, 5, 6, 7, 8, 9, 10, 11, 12] rfl rfl (by decide) (by decide) pm hfr
    refine lv_aload_n hz.1 hz.2.1 dL_law_1012 rfl (lv_at hl 2 rfl) ?_
    refine lfe (n := 1) hz hX hbl hS hl (by omega) hL hx1 (by decide) dL_law_1013 dL_law_1014 dL_law_1015 dL_law_1016 dL_law_1017 ?_
    refine wrV (A := lA s_) (As := [.int x1]) (rest := [.int (-1)]) hz okYT (c6_status_bad l_ D k b I J G x1 hb) (cwV 1 hz.2.2.2.2 gL_law_X6_status rfl rfl rfl (by decide +kernel) ⟨Nat.le_of_ble_eq_true rfl, Nat.le_of_ble_eq_true rfl⟩) hK trivial pm (D_ix hbk [0, 1, 2, 3, 4, 5, 6, 7, 8, 9, 10, 11, 12] rfl (by decide) (by decide)) hS 0 6 rfl rfl rfl rfl hl.1 rfl (Nat.le_of_ble_eq_true rfl) dL_law_1018 ⟨Nat.le_of_ble_eq_true rfl, Nat.le_of_ble_eq_true rfl⟩ (fun r u H1 locs hp hP1 hS hfr => ?_)
    obtain rfl : r = -1 := hp
    have pm := hP1
    have pc_ : CPs D k a (nset C 0 (C 0 + 1)) F E Fd Ed Fp Ep Fq Eg K X ((G 9)) Z S Rr Y Nt Sl Mt Ch Q H1 := CPs.kept ⟨p0, p1, p2, p3, p4, p5, p6, p7, p8, p9, p10⟩ hba hfr
    obtain ⟨p0, p1, p2, p3, p4, p5, p6, p7, p8, p9, p10⟩ := pc_
    refine cmpE (tgt := 1063) hz (rfl) dL_law_1021 (by decide) ?_
    exact hk _ _ ⟨nset C 0 (C 0 + 1), F, E, Fd, Ed, Fp, Ep, Fq, Eg, K, X, (G 9), Z, S, Rr, Y, Nt, Sl, Mt, Ch, Q, I, J, gset G 3 (sRef (G 3) 0), ⟨hB, hC.s0, hT, hQ, hM, hU⟩, ⟨p0, p1, p2, p3, p4, p5, p6, p7, p8, p9, p10⟩, pm⟩ hS ls hl
  · have hb1 := hb
    obtain ⟨wh, ⟨whl, whh⟩, rfl⟩ := wIn_t (by omega) (by omega) hb1
    refine lv_aload_n hz.1 hz.2.1 dL_law_1003 rfl (lv_at hl 1 rfl) ?_
    refine lfe (n := 1) hz hX hbl hS hl (by omega) hL hx1 (by decide) dL_law_1004 dL_law_1005 dL_law_1006 dL_law_1007 dL_law_1008 ?_
    refine rdV (A := lA s_) (As := [.int (nI wh)]) (rest := []) hz (okAm tS sk sv) (c5_status_ok l_ D k a tS sk sv C F E ((G 0)) wh hB.2 hB.1 whh) (cwV 1 hz.2.2.2.2 gL_law_X5_status rfl rfl rfl (by decide +kernel) ⟨Nat.le_of_ble_eq_true rfl, Nat.le_of_ble_eq_true rfl⟩) hK hy (p0.app p1) (D_ix ha [0, 1, 2, 3, 4, 5, 6, 7, 8] rfl (by decide) (by decide)) hS 0 5 rfl rfl rfl rfl hl.1 rfl (Nat.le_of_ble_eq_true rfl) dL_law_1009 ⟨Nat.le_of_ble_eq_true rfl, Nat.le_of_ble_eq_true rfl⟩ ?_
    refine lv_aload_n hz.1 hz.2.1 dL_law_1012 rfl (lv_at hl 2 rfl) ?_
    refine lfe (n := 1) hz hX hbl hS hl (by omega) hL hx1 (by decide) dL_law_1013 dL_law_1014 dL_law_1015 dL_law_1016 dL_law_1017 ?_
    refine rdV (A := lA s_) (As := [.int (nI wh)]) (rest := [.int (nI (C wh))]) hz okYT (c6_status_ok l_ D k b I J G wh whh) (cwV 1 hz.2.2.2.2 gL_law_X6_status rfl rfl rfl (by decide +kernel) ⟨Nat.le_of_ble_eq_true rfl, Nat.le_of_ble_eq_true rfl⟩) hK trivial pm (D_ix hbk [0, 1, 2, 3, 4, 5, 6, 7, 8, 9, 10, 11, 12] rfl (by decide) (by decide)) hS 0 6 rfl rfl rfl rfl hl.1 rfl (Nat.le_of_ble_eq_true rfl) dL_law_1018 ⟨Nat.le_of_ble_eq_true rfl, Nat.le_of_ble_eq_true rfl⟩ ?_
    refine cmpE (tgt := 1063) hz (by rw [hC.at whh]) dL_law_1021 (by decide) ?_
    exact hk H locs hI hS ls hl

set_option maxHeartbeats 4000000 in
set_option maxRecDepth 100000 in
theorem law_count {p_ : Program} {l_ : Launch} {e_ : Env} {s_ : State} {m_ : MethodId} {bl_ : List Frame} {me_ : Method} {c_ : Code} {D : va_G} {k : Nat → ClassId} {a b : Nat → Nat} {b0 L : Nat} {xs : Nat → Int32} {tS : Nat} {sk sv : Nat → Nat} {i : Nat} (E0 : LE p_ s_ m_ c_ D k a b b0 L xs tS sk sv) (hi : i + 6 ≤ L) (hk : LK p_ l_ e_ s_ m_ bl_ me_ c_ D k a b b0 i 1063) : LK p_ l_ e_ s_ m_ bl_ me_ c_ D k a b b0 i 1026 := by
  obtain ⟨hz, hX, hbl, hK, hy, ha, hbk, hab, hL⟩ := E0
  have hba : ∀ i j, i < 13 → j < 54 → b i ≠ a j := fun i j h1 h2 q => hab j i h2 h1 q.symm
  intro H locs hI hS ls hl
  obtain ⟨C, F, E, Fd, Ed, Fp, Ep, Fq, Eg, K, X, T, Z, S, Rr, Y, Nt, Sl, Mt, Ch, Q, I, J, G, ⟨hB, hC, hT, hQ, hM, hU⟩, ⟨p0, p1, p2, p3, p4, p5, p6, p7, p8, p9, p10⟩, pm⟩ := id hI
  obtain ⟨eX, hI2, rfl, hTb⟩ := hT
  have hT : LT X (G 9) I (G 9) := ⟨eX, hI2, rfl, hTb⟩
  have f0 := hB.1.n2
  have f1 := hB.1.n9
  have f4 := hB.1.pc
  have f5 := hB.1.wc
  obtain ⟨x1, hx1⟩ : ∃ z, xs (i + 1) = z := ⟨_, rfl⟩
  cases hb : (wIn x1 0 5)
  · refine lv_aload_n hz.1 hz.2.1 dL_law_1026 rfl (lv_at hl 1 rfl) ?_
    refine lfe (n := 1) hz hX hbl hS hl (by omega) hL hx1 (by decide) dL_law_1027 dL_law_1028 dL_law_1029 dL_law_1030 dL_law_1031 ?_
    refine wrV (A := lA s_) (As := [.int x1]) (rest := []) hz (okAm tS sk sv) (c5_count_bad l_ D k a tS sk sv C F E X ((G 9)) ((G 0)) x1 hB.2 hB.1 hb) (cwV 1 hz.2.2.2.2 gL_law_X5_count rfl rfl rfl (by decide +kernel) ⟨Nat.le_of_ble_eq_true rfl, Nat.le_of_ble_eq_true rfl⟩) hK hy (p0.app (p1.app p7)) (D_ix ha [0, 1, 2, 3, 4, 5, 6, 7, 8, 35, 36] rfl (by decide) (by decide)) hS 0 5 rfl rfl rfl rfl hl.1 rfl (Nat.le_of_ble_eq_true rfl) dL_law_1032 ⟨Nat.le_of_ble_eq_true rfl, Nat.le_of_ble_eq_true rfl⟩ (fun r u H1 locs hp hP1 hS hfr => ?_)
    obtain rfl : r = -2 := hp
    have p0 := hP1.left
    have hP1 := hP1.right
    have p1 := hP1.left
    have hP1 := hP1.right
    have p7 := hP1
    have kp : ∀ (g_ : va_W) (jx : List Nat), g_.map (fun q => q.1) = jx.map a → (∀ j ∈ jx, j < 54) → (∀ j ∈ jx, j ∉ ([0, 1, 2, 3, 4, 5, 6, 7, 8, 35, 36] : List Nat)) → va_P D vwCl g_ H → va_P D vwCl g_ H1 := fun g_ jx h1 h2 h3 h4 => keepG (wc := ho a C ++ (bw a 1 k F E ++ (tw a k X ((G 9))))) ha [0, 1, 2, 3, 4, 5, 6, 7, 8, 35, 36] jx rfl h1 (by decide) h2 h3 h4 hfr
    have p2 := kp _ [9, 10, 11, 12, 13, 14, 15, 16] rfl (by decide) (by decide) p2
    have p3 := kp _ [17] rfl (by decide) (by decide) p3
    have p4 := kp _ [18, 19, 20, 21, 22, 23, 24, 25] rfl (by decide) (by decide) p4
    have p5 := kp _ [26, 27, 28, 29, 30, 31, 32, 33] rfl (by decide) (by decide) p5
    have p6 := kp _ [34] rfl (by decide) (by decide) p6
    have p8 := kp _ [37, 38] rfl (by decide) (by decide) p8
    have p9 := kp _ [39, 40, 41, 42, 43, 44, 45, 46, 47, 48, 49, 50, 51, 52] rfl (by decide) (by decide) p9
    have p10 := kp _ [53] rfl (by decide) (by decide) p10
    have pm := keepX (wc := ho a C ++ (bw a 1 k F E ++ (tw a k X ((G 9))))) (g := mw b k I J G) hab [0, 1, 2, 3, 4, 5, 6, 7, 8, 35, 36] [0, 1, 2, 3, 4, 5, 6, 7, 8, 9, 10, 11, 12] rfl rfl (by decide) (by decide) pm hfr
    refine lv_aload_n hz.1 hz.2.1 dL_law_1035 rfl (lv_at hl 2 rfl) ?_
    refine lfe (n := 1) hz hX hbl hS hl (by omega) hL hx1 (by decide) dL_law_1036 dL_law_1037 dL_law_1038 dL_law_1039 dL_law_1040 ?_
    refine wrV (A := lA s_) (As := [.int x1]) (rest := [.int (-2)]) hz okYT (c6_count_bad l_ D k b I J G x1 hB.1 hb) (cwV 1 hz.2.2.2.2 gL_law_X6_count rfl rfl rfl (by decide +kernel) ⟨Nat.le_of_ble_eq_true rfl, Nat.le_of_ble_eq_true rfl⟩) hK trivial pm (D_ix hbk [0, 1, 2, 3, 4, 5, 6, 7, 8, 9, 10, 11, 12] rfl (by decide) (by decide)) hS 0 6 rfl rfl rfl rfl hl.1 rfl (Nat.le_of_ble_eq_true rfl) dL_law_1041 ⟨Nat.le_of_ble_eq_true rfl, Nat.le_of_ble_eq_true rfl⟩ (fun r u H1 locs hp hP1 hS hfr => ?_)
    obtain rfl : r = -2 := hp
    have pm := hP1
    have pc_ : CPs D k a (nset C 0 (C 0 + 1)) F E Fd Ed Fp Ep Fq Eg K X ((G 9)) Z S Rr Y Nt Sl Mt Ch Q H1 := CPs.kept ⟨p0, p1, p2, p3, p4, p5, p6, p7, p8, p9, p10⟩ hba hfr
    obtain ⟨p0, p1, p2, p3, p4, p5, p6, p7, p8, p9, p10⟩ := pc_
    refine cmpE (tgt := 1063) hz (rfl) dL_law_1044 (by decide) ?_
    exact hk _ _ ⟨nset C 0 (C 0 + 1), F, E, Fd, Ed, Fp, Ep, Fq, Eg, K, X, (G 9), Z, S, Rr, Y, Nt, Sl, Mt, Ch, Q, I, J, gset G 3 (sRef (G 3) 0), ⟨hB, hC.s0, hT, hQ, hM, hU⟩, ⟨p0, p1, p2, p3, p4, p5, p6, p7, p8, p9, p10⟩, pm⟩ hS ls hl
  · have hb1 := hb
    obtain ⟨wh, ⟨whl, whh⟩, rfl⟩ := wIn_t (by omega) (by omega) hb1
    refine lv_aload_n hz.1 hz.2.1 dL_law_1026 rfl (lv_at hl 1 rfl) ?_
    refine lfe (n := 1) hz hX hbl hS hl (by omega) hL hx1 (by decide) dL_law_1027 dL_law_1028 dL_law_1029 dL_law_1030 dL_law_1031 ?_
    refine rdV (A := lA s_) (As := [.int (nI wh)]) (rest := []) hz (okAm tS sk sv) (c5_count_ok l_ D k a tS sk sv C F E X ((G 9)) ((G 0)) wh hB.2 hB.1 whh) (cwV 1 hz.2.2.2.2 gL_law_X5_count rfl rfl rfl (by decide +kernel) ⟨Nat.le_of_ble_eq_true rfl, Nat.le_of_ble_eq_true rfl⟩) hK hy (p0.app (p1.app p7)) (D_ix ha [0, 1, 2, 3, 4, 5, 6, 7, 8, 35, 36] rfl (by decide) (by decide)) hS 0 5 rfl rfl rfl rfl hl.1 rfl (Nat.le_of_ble_eq_true rfl) dL_law_1032 ⟨Nat.le_of_ble_eq_true rfl, Nat.le_of_ble_eq_true rfl⟩ ?_
    refine lv_aload_n hz.1 hz.2.1 dL_law_1035 rfl (lv_at hl 2 rfl) ?_
    refine lfe (n := 1) hz hX hbl hS hl (by omega) hL hx1 (by decide) dL_law_1036 dL_law_1037 dL_law_1038 dL_law_1039 dL_law_1040 ?_
    refine rdV (A := lA s_) (As := [.int (nI wh)]) (rest := [.int (nI (sCount (G 0) (X 0) wh))]) hz okYT (c6_count_ok l_ D k b I J G wh hB.1 whh) (cwV 1 hz.2.2.2.2 gL_law_X6_count rfl rfl rfl (by decide +kernel) ⟨Nat.le_of_ble_eq_true rfl, Nat.le_of_ble_eq_true rfl⟩) hK trivial pm (D_ix hbk [0, 1, 2, 3, 4, 5, 6, 7, 8, 9, 10, 11, 12] rfl (by decide) (by decide)) hS 0 6 rfl rfl rfl rfl hl.1 rfl (Nat.le_of_ble_eq_true rfl) dL_law_1041 ⟨Nat.le_of_ble_eq_true rfl, Nat.le_of_ble_eq_true rfl⟩ ?_
    refine cmpE (tgt := 1063) hz (by rw [eX]) dL_law_1044 (by decide) ?_
    exact hk H locs hI hS ls hl

set_option maxHeartbeats 4000000 in
set_option maxRecDepth 100000 in
theorem law_digest {p_ : Program} {l_ : Launch} {e_ : Env} {s_ : State} {m_ : MethodId} {bl_ : List Frame} {me_ : Method} {c_ : Code} {D : va_G} {k : Nat → ClassId} {a b : Nat → Nat} {b0 L : Nat} {xs : Nat → Int32} {tS : Nat} {sk sv : Nat → Nat} {i : Nat} (E0 : LE p_ s_ m_ c_ D k a b b0 L xs tS sk sv) (hi : i + 6 ≤ L) (hk : LK p_ l_ e_ s_ m_ bl_ me_ c_ D k a b b0 i 1063) : LK p_ l_ e_ s_ m_ bl_ me_ c_ D k a b b0 i 1049 := by
  obtain ⟨hz, hX, hbl, hK, hy, ha, hbk, hab, hL⟩ := E0
  have hba : ∀ i j, i < 13 → j < 54 → b i ≠ a j := fun i j h1 h2 q => hab j i h2 h1 q.symm
  intro H locs hI hS ls hl
  obtain ⟨C, F, E, Fd, Ed, Fp, Ep, Fq, Eg, K, X, T, Z, S, Rr, Y, Nt, Sl, Mt, Ch, Q, I, J, G, ⟨hB, hC, hT, hQ, hM, hU⟩, ⟨p0, p1, p2, p3, p4, p5, p6, p7, p8, p9, p10⟩, pm⟩ := id hI
  obtain ⟨eX, hI2, rfl, hTb⟩ := hT
  have hT : LT X (G 9) I (G 9) := ⟨eX, hI2, rfl, hTb⟩
  have f0 := hB.1.n2
  have f1 := hB.1.n9
  have f4 := hB.1.pc
  have f5 := hB.1.wc
  refine lv_aload_n hz.1 hz.2.1 dL_law_1049 rfl (lv_at hl 1 rfl) ?_
  refine rdVl (A := lA s_) (As := []) (rest := []) hz (okAm tS sk sv) (c5_digest l_ D k a tS sk sv C F E X ((G 9)) Q ((G 0)) hB.2 hB.1 (by rw [eX]; exact hI2)) (cwV 0 hz.2.2.2.2 gL_law_X5_digest rfl rfl rfl (by decide +kernel) ⟨Nat.le_of_ble_eq_true rfl, Nat.le_of_ble_eq_true rfl⟩) hK hy (p0.app (p1.app (p7.app p10))) (D_ix ha [0, 1, 2, 3, 4, 5, 6, 7, 8, 35, 36, 53] rfl (by decide) (by decide)) hS 0 5 rfl rfl rfl rfl hl.1 rfl (Nat.le_of_ble_eq_true rfl) dL_law_1050 ⟨Nat.le_of_ble_eq_true rfl, Nat.le_of_ble_eq_true rfl⟩ ?_
  refine lv_aload_n hz.1 hz.2.1 dL_law_1053 rfl (lv_at hl 2 rfl) ?_
  refine rdVl (A := lA s_) (As := []) (rest := [.long (lN (sDig (G 0) (X 0) (Q 0) (Q 1)))]) hz okYT (c6_digest l_ D k b I J G  hB.1 hI2) (cwV 0 hz.2.2.2.2 gL_law_X6_digest rfl rfl rfl (by decide +kernel) ⟨Nat.le_of_ble_eq_true rfl, Nat.le_of_ble_eq_true rfl⟩) hK trivial pm (D_ix hbk [0, 1, 2, 3, 4, 5, 6, 7, 8, 9, 10, 11, 12] rfl (by decide) (by decide)) hS 0 6 rfl rfl rfl rfl hl.1 rfl (Nat.le_of_ble_eq_true rfl) dL_law_1054 ⟨Nat.le_of_ble_eq_true rfl, Nat.le_of_ble_eq_true rfl⟩ ?_
  refine cmpL (tgt := 1063) hz (by rw [eX, hQ.1, hQ.2]) dL_law_1057 dL_law_1058 (by decide) ?_
  exact hk H locs hI hS ls hl
