set_option maxHeartbeats 4000000 in
set_option maxRecDepth 100000 in
theorem law_wind {p_ : Program} {l_ : Launch} {e_ : Env} {s_ : State} {m_ : MethodId} {bl_ : List Frame} {me_ : Method} {c_ : Code} {D : va_G} {k : Nat → ClassId} {a b : Nat → Nat} {b0 L : Nat} {xs : Nat → Int32} {tS : Nat} {sk sv : Nat → Nat} {i : Nat} (E0 : LE p_ s_ m_ c_ D k a b b0 L xs tS sk sv) (hi : i + 6 ≤ L) (hk : LK p_ l_ e_ s_ m_ bl_ me_ c_ D k a b b0 i 1063) : LK p_ l_ e_ s_ m_ bl_ me_ c_ D k a b b0 i 310 := by
  obtain ⟨hz, hX, hbl, hK, hy, ha, hbk, hab, hL⟩ := E0
  have hba : ∀ i j, i < 13 → j < 54 → b i ≠ a j := fun i j h1 h2 q => hab j i h2 h1 q.symm
  intro H locs hI hS ls hl
  obtain ⟨C, F, E, Fd, Ed, Fp, Ep, Fq, Eg, K, X, T, Z, S, Rr, Y, Nt, Sl, Mt, Ch, Q, I, J, G, ⟨hB, hC, hT, hQ, hM, hU⟩, ⟨p0, p1, p2, p3, p4, p5, p6, p7, p8, p9, p10⟩, pm⟩ := id hI
  obtain ⟨eX, hI2, rfl, hTb⟩ := hT
  have hT : LT X (G 9) I (G 9) := ⟨eX, hI2, rfl, hTb⟩
  have f0 := hB.1.n2
  have f1 := hB.1.n9
  have f4 := hB.1.pc
  have f5 := hB.1.wc
  obtain ⟨x1, hx1⟩ : ∃ z, xs (i + 1) = z := ⟨_, rfl⟩
  obtain ⟨x2, hx2⟩ : ∃ z, xs (i + 2) = z := ⟨_, rfl⟩
  cases hb : (wIn x1 0 59 && wIn x2 0 (G 0 0 - 1 - 1))
  · refine lv_aload_n hz.1 hz.2.1 dL_law_310 rfl (lv_at hl 1 rfl) ?_
    refine lfe (n := 1) hz hX hbl hS hl (by omega) hL hx1 (by decide) dL_law_311 dL_law_312 dL_law_313 dL_law_314 dL_law_315 ?_
    refine lfe (n := 2) hz hX hbl hS hl (by omega) hL hx2 (by decide) dL_law_316 dL_law_317 dL_law_318 dL_law_319 dL_law_320 ?_
    refine wrV (A := lA s_) (As := [.int x1, .int x2]) (rest := []) hz (okAm tS sk sv) (c5_wind_bad l_ D k a tS sk sv C F E ((G 0)) x1 x2 hB.2 hB.1 hb) (cwV 2 hz.2.2.2.2 gL_law_X5_wind rfl rfl rfl (by decide +kernel) ⟨Nat.le_of_ble_eq_true rfl, Nat.le_of_ble_eq_true rfl⟩) hK hy (p0.app p1) (D_ix ha [0, 1, 2, 3, 4, 5, 6, 7, 8] rfl (by decide) (by decide)) hS 0 5 rfl rfl rfl rfl hl.1 rfl (Nat.le_of_ble_eq_true rfl) dL_law_321 ⟨Nat.le_of_ble_eq_true rfl, Nat.le_of_ble_eq_true rfl⟩ (fun r u H1 locs hp hP1 hS hfr => ?_)
    obtain rfl : r = -2 := hp
    have p0 := hP1.left
    have hP1 := hP1.right
    have p1 := hP1
    have kp : ∀ (g_ : va_W) (jx : List Nat), g_.map (fun q => q.1) = jx.map a → (∀ j ∈ jx, j < 54) → (∀ j ∈ jx, j ∉ ([0, 1, 2, 3, 4, 5, 6, 7, 8] : List Nat)) → va_P D vwCl g_ H → va_P D vwCl g_ H1 := fun g_ jx h1 h2 h3 h4 => keepG (wc := ho a C ++ (bw a 1 k F E)) ha [0, 1, 2, 3, 4, 5, 6, 7, 8] jx rfl h1 (by decide) h2 h3 h4 hfr
    have p2 := kp _ [9, 10, 11, 12, 13, 14, 15, 16] rfl (by decide) (by decide) p2
    have p3 := kp _ [17] rfl (by decide) (by decide) p3
    have p4 := kp _ [18, 19, 20, 21, 22, 23, 24, 25] rfl (by decide) (by decide) p4
    have p5 := kp _ [26, 27, 28, 29, 30, 31, 32, 33] rfl (by decide) (by decide) p5
    have p6 := kp _ [34] rfl (by decide) (by decide) p6
    have p7 := kp _ [35, 36] rfl (by decide) (by decide) p7
    have p8 := kp _ [37, 38] rfl (by decide) (by decide) p8
    have p9 := kp _ [39, 40, 41, 42, 43, 44, 45, 46, 47, 48, 49, 50, 51, 52] rfl (by decide) (by decide) p9
    have p10 := kp _ [53] rfl (by decide) (by decide) p10
    have pm := keepX (wc := ho a C ++ (bw a 1 k F E)) (g := mw b k I J G) hab [0, 1, 2, 3, 4, 5, 6, 7, 8] [0, 1, 2, 3, 4, 5, 6, 7, 8, 9, 10, 11, 12] rfl rfl (by decide) (by decide) pm hfr
    refine lv_aload_n hz.1 hz.2.1 dL_law_324 rfl (lv_at hl 2 rfl) ?_
    refine lfe (n := 1) hz hX hbl hS hl (by omega) hL hx1 (by decide) dL_law_325 dL_law_326 dL_law_327 dL_law_328 dL_law_329 ?_
    refine lfe (n := 2) hz hX hbl hS hl (by omega) hL hx2 (by decide) dL_law_330 dL_law_331 dL_law_332 dL_law_333 dL_law_334 ?_
    refine wrV (A := lA s_) (As := [.int x1, .int x2]) (rest := [.int (-2)]) hz okYT (c6_wind_bad l_ D k b I J G x1 x2 hB.1 hb) (cwV 2 hz.2.2.2.2 gL_law_X6_wind rfl rfl rfl (by decide +kernel) ⟨Nat.le_of_ble_eq_true rfl, Nat.le_of_ble_eq_true rfl⟩) hK trivial pm (D_ix hbk [0, 1, 2, 3, 4, 5, 6, 7, 8, 9, 10, 11, 12] rfl (by decide) (by decide)) hS 0 6 rfl rfl rfl rfl hl.1 rfl (Nat.le_of_ble_eq_true rfl) dL_law_335 ⟨Nat.le_of_ble_eq_true rfl, Nat.le_of_ble_eq_true rfl⟩ (fun r u H1 locs hp hP1 hS hfr => ?_)
    obtain rfl : r = -2 := hp
    have pm := hP1
    have pc_ : CPs D k a (nset C 0 (C 0 + 1)) F E Fd Ed Fp Ep Fq Eg K X ((G 9)) Z S Rr Y Nt Sl Mt Ch Q H1 := CPs.kept ⟨p0, p1, p2, p3, p4, p5, p6, p7, p8, p9, p10⟩ hba hfr
    obtain ⟨p0, p1, p2, p3, p4, p5, p6, p7, p8, p9, p10⟩ := pc_
    refine cmpE (tgt := 1063) hz (rfl) dL_law_338 (by decide) ?_
    exact hk _ _ ⟨nset C 0 (C 0 + 1), F, E, Fd, Ed, Fp, Ep, Fq, Eg, K, X, (G 9), Z, S, Rr, Y, Nt, Sl, Mt, Ch, Q, I, J, gset G 3 (sRef (G 3) 0), ⟨hB, hC.s0, hT, hQ, hM, hU⟩, ⟨p0, p1, p2, p3, p4, p5, p6, p7, p8, p9, p10⟩, pm⟩ hS ls hl
  · simp only [Bool.and_eq_true] at hb
    obtain ⟨hb1, hb2⟩ := hb
    obtain ⟨mn, ⟨mnl, mnh⟩, rfl⟩ := wIn_t (by omega) (by omega) hb1
    obtain ⟨w, ⟨wl, wh⟩, rfl⟩ := wIn_t (by omega) (by omega) hb2
    rcases Nat.lt_or_ge (G 0 19) 6 with hc | hc
    · refine lv_aload_n hz.1 hz.2.1 dL_law_310 rfl (lv_at hl 1 rfl) ?_
      refine lfe (n := 1) hz hX hbl hS hl (by omega) hL hx1 (by decide) dL_law_311 dL_law_312 dL_law_313 dL_law_314 dL_law_315 ?_
      refine lfe (n := 2) hz hX hbl hS hl (by omega) hL hx2 (by decide) dL_law_316 dL_law_317 dL_law_318 dL_law_319 dL_law_320 ?_
      refine wrV (A := lA s_) (As := [.int (nI mn), .int (nI w)]) (rest := []) hz (okAm tS sk sv) (c5_wind_ok l_ D k a tS sk sv C F E ((G 0)) mn w hB.2 hB.1 (by omega) (by omega) hc) (cwV 2 hz.2.2.2.2 gL_law_X5_wind rfl rfl rfl (by decide +kernel) ⟨Nat.le_of_ble_eq_true rfl, Nat.le_of_ble_eq_true rfl⟩) hK hy (p0.app p1) (D_ix ha [0, 1, 2, 3, 4, 5, 6, 7, 8] rfl (by decide) (by decide)) hS 0 5 rfl rfl rfl rfl hl.1 rfl (Nat.le_of_ble_eq_true rfl) dL_law_321 ⟨Nat.le_of_ble_eq_true rfl, Nat.le_of_ble_eq_true rfl⟩ (fun r u H1 locs hp hP1 hS hfr => ?_)
      obtain rfl : r = nI ((G 0) 19) := hp
      have p0 := hP1.left
      have hP1 := hP1.right
      have p1 := hP1
      have kp : ∀ (g_ : va_W) (jx : List Nat), g_.map (fun q => q.1) = jx.map a → (∀ j ∈ jx, j < 54) → (∀ j ∈ jx, j ∉ ([0, 1, 2, 3, 4, 5, 6, 7, 8] : List Nat)) → va_P D vwCl g_ H → va_P D vwCl g_ H1 := fun g_ jx h1 h2 h3 h4 => keepG (wc := ho a C ++ (bw a 1 k F E)) ha [0, 1, 2, 3, 4, 5, 6, 7, 8] jx rfl h1 (by decide) h2 h3 h4 hfr
      have p2 := kp _ [9, 10, 11, 12, 13, 14, 15, 16] rfl (by decide) (by decide) p2
      have p3 := kp _ [17] rfl (by decide) (by decide) p3
      have p4 := kp _ [18, 19, 20, 21, 22, 23, 24, 25] rfl (by decide) (by decide) p4
      have p5 := kp _ [26, 27, 28, 29, 30, 31, 32, 33] rfl (by decide) (by decide) p5
      have p6 := kp _ [34] rfl (by decide) (by decide) p6
      have p7 := kp _ [35, 36] rfl (by decide) (by decide) p7
      have p8 := kp _ [37, 38] rfl (by decide) (by decide) p8
      have p9 := kp _ [39, 40, 41, 42, 43, 44, 45, 46, 47, 48, 49, 50, 51, 52] rfl (by decide) (by decide) p9
      have p10 := kp _ [53] rfl (by decide) (by decide) p10
      have pm := keepX (wc := ho a C ++ (bw a 1 k F E)) (g := mw b k I J G) hab [0, 1, 2, 3, 4, 5, 6, 7, 8] [0, 1, 2, 3, 4, 5, 6, 7, 8, 9, 10, 11, 12] rfl rfl (by decide) (by decide) pm hfr
      refine lv_aload_n hz.1 hz.2.1 dL_law_324 rfl (lv_at hl 2 rfl) ?_
      refine lfe (n := 1) hz hX hbl hS hl (by omega) hL hx1 (by decide) dL_law_325 dL_law_326 dL_law_327 dL_law_328 dL_law_329 ?_
      refine lfe (n := 2) hz hX hbl hS hl (by omega) hL hx2 (by decide) dL_law_330 dL_law_331 dL_law_332 dL_law_333 dL_law_334 ?_
      refine wrV (A := lA s_) (As := [.int (nI mn), .int (nI w)]) (rest := [.int (nI ((G 0) 19))]) hz okYT (c6_wind_ok l_ D k b I J G mn w hB.1 (by omega) (by omega) hc) (cwV 2 hz.2.2.2.2 gL_law_X6_wind rfl rfl rfl (by decide +kernel) ⟨Nat.le_of_ble_eq_true rfl, Nat.le_of_ble_eq_true rfl⟩) hK trivial pm (D_ix hbk [0, 1, 2, 3, 4, 5, 6, 7, 8, 9, 10, 11, 12] rfl (by decide) (by decide)) hS 0 6 rfl rfl rfl rfl hl.1 rfl (Nat.le_of_ble_eq_true rfl) dL_law_335 ⟨Nat.le_of_ble_eq_true rfl, Nat.le_of_ble_eq_true rfl⟩ (fun r u H1 locs hp hP1 hS hfr => ?_)
      obtain rfl : r = nI (G 0 19) := hp
      have pm := hP1
      have pc_ : CPs D k a C (nset F 3 (F 3 + 1)) (gset (gset E 2 (nset (E 2) (F 3) mn)) 3 (nset (E 3) (F 3) w)) Fd Ed Fp Ep Fq Eg K X ((G 9)) Z S Rr Y Nt Sl Mt Ch Q H1 := CPs.kept ⟨p0, p1, p2, p3, p4, p5, p6, p7, p8, p9, p10⟩ hba hfr
      obtain ⟨p0, p1, p2, p3, p4, p5, p6, p7, p8, p9, p10⟩ := pc_
      refine cmpE (tgt := 1063) hz (rfl) dL_law_338 (by decide) ?_
      exact hk _ _ ⟨C, nset F 3 (F 3 + 1), gset (gset E 2 (nset (E 2) (F 3) mn)) 3 (nset (E 3) (F 3) w), Fd, Ed, Fp, Ep, Fq, Eg, K, X, (G 9), Z, S, Rr, Y, Nt, Sl, Mt, Ch, Q, I, J, gset G 0 (sAddWind (G 0) mn w), ⟨⟨hB.1.addWind hc (by omega) (by omega), hB.2.addWind hc _ _⟩, hC, hT, hQ, hM, hU⟩, ⟨p0, p1, p2, p3, p4, p5, p6, p7, p8, p9, p10⟩, pm⟩ hS ls hl
    · refine lv_aload_n hz.1 hz.2.1 dL_law_310 rfl (lv_at hl 1 rfl) ?_
      refine lfe (n := 1) hz hX hbl hS hl (by omega) hL hx1 (by decide) dL_law_311 dL_law_312 dL_law_313 dL_law_314 dL_law_315 ?_
      refine lfe (n := 2) hz hX hbl hS hl (by omega) hL hx2 (by decide) dL_law_316 dL_law_317 dL_law_318 dL_law_319 dL_law_320 ?_
      refine wrV (A := lA s_) (As := [.int (nI mn), .int (nI w)]) (rest := []) hz (okAm tS sk sv) (c5_wind_full l_ D k a tS sk sv C F E ((G 0)) mn w hB.2 hB.1 (by omega) (by omega) (by omega)) (cwV 2 hz.2.2.2.2 gL_law_X5_wind rfl rfl rfl (by decide +kernel) ⟨Nat.le_of_ble_eq_true rfl, Nat.le_of_ble_eq_true rfl⟩) hK hy (p0.app p1) (D_ix ha [0, 1, 2, 3, 4, 5, 6, 7, 8] rfl (by decide) (by decide)) hS 0 5 rfl rfl rfl rfl hl.1 rfl (Nat.le_of_ble_eq_true rfl) dL_law_321 ⟨Nat.le_of_ble_eq_true rfl, Nat.le_of_ble_eq_true rfl⟩ (fun r u H1 locs hp hP1 hS hfr => ?_)
      obtain rfl : r = -4 := hp
      have p0 := hP1.left
      have hP1 := hP1.right
      have p1 := hP1
      have kp : ∀ (g_ : va_W) (jx : List Nat), g_.map (fun q => q.1) = jx.map a → (∀ j ∈ jx, j < 54) → (∀ j ∈ jx, j ∉ ([0, 1, 2, 3, 4, 5, 6, 7, 8] : List Nat)) → va_P D vwCl g_ H → va_P D vwCl g_ H1 := fun g_ jx h1 h2 h3 h4 => keepG (wc := ho a C ++ (bw a 1 k F E)) ha [0, 1, 2, 3, 4, 5, 6, 7, 8] jx rfl h1 (by decide) h2 h3 h4 hfr
      have p2 := kp _ [9, 10, 11, 12, 13, 14, 15, 16] rfl (by decide) (by decide) p2
      have p3 := kp _ [17] rfl (by decide) (by decide) p3
      have p4 := kp _ [18, 19, 20, 21, 22, 23, 24, 25] rfl (by decide) (by decide) p4
      have p5 := kp _ [26, 27, 28, 29, 30, 31, 32, 33] rfl (by decide) (by decide) p5
      have p6 := kp _ [34] rfl (by decide) (by decide) p6
      have p7 := kp _ [35, 36] rfl (by decide) (by decide) p7
      have p8 := kp _ [37, 38] rfl (by decide) (by decide) p8
      have p9 := kp _ [39, 40, 41, 42, 43, 44, 45, 46, 47, 48, 49, 50, 51, 52] rfl (by decide) (by decide) p9
      have p10 := kp _ [53] rfl (by decide) (by decide) p10
      have pm := keepX (wc := ho a C ++ (bw a 1 k F E)) (g := mw b k I J G) hab [0, 1, 2, 3, 4, 5, 6, 7, 8] [0, 1, 2, 3, 4, 5, 6, 7, 8, 9, 10, 11, 12] rfl rfl (by decide) (by decide) pm hfr
      refine lv_aload_n hz.1 hz.2.1 dL_law_324 rfl (lv_at hl 2 rfl) ?_
      refine lfe (n := 1) hz hX hbl hS hl (by omega) hL hx1 (by decide) dL_law_325 dL_law_326 dL_law_327 dL_law_328 dL_law_329 ?_
      refine lfe (n := 2) hz hX hbl hS hl (by omega) hL hx2 (by decide) dL_law_330 dL_law_331 dL_law_332 dL_law_333 dL_law_334 ?_
      refine wrV (A := lA s_) (As := [.int (nI mn), .int (nI w)]) (rest := [.int (-4)]) hz okYT (c6_wind_full l_ D k b I J G mn w hB.1 (by omega) (by omega) (by omega)) (cwV 2 hz.2.2.2.2 gL_law_X6_wind rfl rfl rfl (by decide +kernel) ⟨Nat.le_of_ble_eq_true rfl, Nat.le_of_ble_eq_true rfl⟩) hK trivial pm (D_ix hbk [0, 1, 2, 3, 4, 5, 6, 7, 8, 9, 10, 11, 12] rfl (by decide) (by decide)) hS 0 6 rfl rfl rfl rfl hl.1 rfl (Nat.le_of_ble_eq_true rfl) dL_law_335 ⟨Nat.le_of_ble_eq_true rfl, Nat.le_of_ble_eq_true rfl⟩ (fun r u H1 locs hp hP1 hS hfr => ?_)
      obtain rfl : r = -4 := hp
      have pm := hP1
      have pc_ : CPs D k a (nset C 2 (C 2 + 1)) F E Fd Ed Fp Ep Fq Eg K X ((G 9)) Z S Rr Y Nt Sl Mt Ch Q H1 := CPs.kept ⟨p0, p1, p2, p3, p4, p5, p6, p7, p8, p9, p10⟩ hba hfr
      obtain ⟨p0, p1, p2, p3, p4, p5, p6, p7, p8, p9, p10⟩ := pc_
      refine cmpE (tgt := 1063) hz (rfl) dL_law_338 (by decide) ?_
      exact hk _ _ ⟨nset C 2 (C 2 + 1), F, E, Fd, Ed, Fp, Ep, Fq, Eg, K, X, (G 9), Z, S, Rr, Y, Nt, Sl, Mt, Ch, Q, I, J, gset G 3 (sRef (G 3) 2), ⟨hB, hC.s2, hT, hQ, hM, hU⟩, ⟨p0, p1, p2, p3, p4, p5, p6, p7, p8, p9, p10⟩, pm⟩ hS ls hl

set_option maxHeartbeats 4000000 in
set_option maxRecDepth 100000 in
theorem law_calm {p_ : Program} {l_ : Launch} {e_ : Env} {s_ : State} {m_ : MethodId} {bl_ : List Frame} {me_ : Method} {c_ : Code} {D : va_G} {k : Nat → ClassId} {a b : Nat → Nat} {b0 L : Nat} {xs : Nat → Int32} {tS : Nat} {sk sv : Nat → Nat} {i : Nat} (E0 : LE p_ s_ m_ c_ D k a b b0 L xs tS sk sv) (hi : i + 6 ≤ L) (hk : LK p_ l_ e_ s_ m_ bl_ me_ c_ D k a b b0 i 1063) : LK p_ l_ e_ s_ m_ bl_ me_ c_ D k a b b0 i 343 := by
  obtain ⟨hz, hX, hbl, hK, hy, ha, hbk, hab, hL⟩ := E0
  have hba : ∀ i j, i < 13 → j < 54 → b i ≠ a j := fun i j h1 h2 q => hab j i h2 h1 q.symm
  intro H locs hI hS ls hl
  obtain ⟨C, F, E, Fd, Ed, Fp, Ep, Fq, Eg, K, X, T, Z, S, Rr, Y, Nt, Sl, Mt, Ch, Q, I, J, G, ⟨hB, hC, hT, hQ, hM, hU⟩, ⟨p0, p1, p2, p3, p4, p5, p6, p7, p8, p9, p10⟩, pm⟩ := id hI
  obtain ⟨eX, hI2, rfl, hTb⟩ := hT
  have hT : LT X (G 9) I (G 9) := ⟨eX, hI2, rfl, hTb⟩
  have f0 := hB.1.n2
  have f1 := hB.1.n9
  have f4 := hB.1.pc
  have f5 := hB.1.wc
  refine lv_aload_n hz.1 hz.2.1 dL_law_343 rfl (lv_at hl 1 rfl) ?_
  refine wrV (A := lA s_) (As := []) (rest := []) hz (okAm tS sk sv) (c5_calm l_ D k a tS sk sv C F E ((G 0)) hB.2 hB.1 ) (cwV 0 hz.2.2.2.2 gL_law_X5_calm rfl rfl rfl (by decide +kernel) ⟨Nat.le_of_ble_eq_true rfl, Nat.le_of_ble_eq_true rfl⟩) hK hy (p0.app p1) (D_ix ha [0, 1, 2, 3, 4, 5, 6, 7, 8] rfl (by decide) (by decide)) hS 0 5 rfl rfl rfl rfl hl.1 rfl (Nat.le_of_ble_eq_true rfl) dL_law_344 ⟨Nat.le_of_ble_eq_true rfl, Nat.le_of_ble_eq_true rfl⟩ (fun r u H1 locs hp hP1 hS hfr => ?_)
  obtain rfl : r = nI ((G 0) 19) := hp
  have p0 := hP1.left
  have hP1 := hP1.right
  have p1 := hP1
  have kp : ∀ (g_ : va_W) (jx : List Nat), g_.map (fun q => q.1) = jx.map a → (∀ j ∈ jx, j < 54) → (∀ j ∈ jx, j ∉ ([0, 1, 2, 3, 4, 5, 6, 7, 8] : List Nat)) → va_P D vwCl g_ H → va_P D vwCl g_ H1 := fun g_ jx h1 h2 h3 h4 => keepG (wc := ho a C ++ (bw a 1 k F E)) ha [0, 1, 2, 3, 4, 5, 6, 7, 8] jx rfl h1 (by decide) h2 h3 h4 hfr
  have p2 := kp _ [9, 10, 11, 12, 13, 14, 15, 16] rfl (by decide) (by decide) p2
  have p3 := kp _ [17] rfl (by decide) (by decide) p3
  have p4 := kp _ [18, 19, 20, 21, 22, 23, 24, 25] rfl (by decide) (by decide) p4
  have p5 := kp _ [26, 27, 28, 29, 30, 31, 32, 33] rfl (by decide) (by decide) p5
  have p6 := kp _ [34] rfl (by decide) (by decide) p6
  have p7 := kp _ [35, 36] rfl (by decide) (by decide) p7
  have p8 := kp _ [37, 38] rfl (by decide) (by decide) p8
  have p9 := kp _ [39, 40, 41, 42, 43, 44, 45, 46, 47, 48, 49, 50, 51, 52] rfl (by decide) (by decide) p9
  have p10 := kp _ [53] rfl (by decide) (by decide) p10
  have pm := keepX (wc := ho a C ++ (bw a 1 k F E)) (g := mw b k I J G) hab [0, 1, 2, 3, 4, 5, 6, 7, 8] [0, 1, 2, 3, 4, 5, 6, 7, 8, 9, 10, 11, 12] rfl rfl (by decide) (by decide) pm hfr
  refine lv_aload_n hz.1 hz.2.1 dL_law_347 rfl (lv_at hl 2 rfl) ?_
  refine wrV (A := lA s_) (As := []) (rest := [.int (nI ((G 0) 19))]) hz okYT (c6_calm l_ D k b I J G  ) (cwV 0 hz.2.2.2.2 gL_law_X6_calm rfl rfl rfl (by decide +kernel) ⟨Nat.le_of_ble_eq_true rfl, Nat.le_of_ble_eq_true rfl⟩) hK trivial pm (D_ix hbk [0, 1, 2, 3, 4, 5, 6, 7, 8, 9, 10, 11, 12] rfl (by decide) (by decide)) hS 0 6 rfl rfl rfl rfl hl.1 rfl (Nat.le_of_ble_eq_true rfl) dL_law_348 ⟨Nat.le_of_ble_eq_true rfl, Nat.le_of_ble_eq_true rfl⟩ (fun r u H1 locs hp hP1 hS hfr => ?_)
  obtain rfl : r = nI (G 0 19) := hp
  have pm := hP1
  have pc_ : CPs D k a C (nset F 3 0) E Fd Ed Fp Ep Fq Eg K X ((G 9)) Z S Rr Y Nt Sl Mt Ch Q H1 := CPs.kept ⟨p0, p1, p2, p3, p4, p5, p6, p7, p8, p9, p10⟩ hba hfr
  obtain ⟨p0, p1, p2, p3, p4, p5, p6, p7, p8, p9, p10⟩ := pc_
  refine cmpE (tgt := 1063) hz (rfl) dL_law_351 (by decide) ?_
  exact hk _ _ ⟨C, nset F 3 0, E, Fd, Ed, Fp, Ep, Fq, Eg, K, X, (G 9), Z, S, Rr, Y, Nt, Sl, Mt, Ch, Q, I, J, gset G 0 (nset (G 0) 19 0), ⟨⟨hB.1.small (Or.inr (Or.inr (Or.inl ⟨rfl, Nat.zero_le _⟩))), hB.2.winds (Nat.zero_le _) f5⟩, hC, hT, hQ, hM, hU⟩, ⟨p0, p1, p2, p3, p4, p5, p6, p7, p8, p9, p10⟩, pm⟩ hS ls hl

set_option maxHeartbeats 4000000 in
set_option maxRecDepth 100000 in
theorem law_pass {p_ : Program} {l_ : Launch} {e_ : Env} {s_ : State} {m_ : MethodId} {bl_ : List Frame} {me_ : Method} {c_ : Code} {D : va_G} {k : Nat → ClassId} {a b : Nat → Nat} {b0 L : Nat} {xs : Nat → Int32} {tS : Nat} {sk sv : Nat → Nat} {i : Nat} (E0 : LE p_ s_ m_ c_ D k a b b0 L xs tS sk sv) (hi : i + 6 ≤ L) (hk : LK p_ l_ e_ s_ m_ bl_ me_ c_ D k a b b0 i 1063) : LK p_ l_ e_ s_ m_ bl_ me_ c_ D k a b b0 i 356 := by
  obtain ⟨hz, hX, hbl, hK, hy, ha, hbk, hab, hL⟩ := E0
  have hba : ∀ i j, i < 13 → j < 54 → b i ≠ a j := fun i j h1 h2 q => hab j i h2 h1 q.symm
  intro H locs hI hS ls hl
  obtain ⟨C, F, E, Fd, Ed, Fp, Ep, Fq, Eg, K, X, T, Z, S, Rr, Y, Nt, Sl, Mt, Ch, Q, I, J, G, ⟨hB, hC, hT, hQ, hM, hU⟩, ⟨p0, p1, p2, p3, p4, p5, p6, p7, p8, p9, p10⟩, pm⟩ := id hI
  obtain ⟨eX, hI2, rfl, hTb⟩ := hT
  have hT : LT X (G 9) I (G 9) := ⟨eX, hI2, rfl, hTb⟩
  have f0 := hB.1.n2
  have f1 := hB.1.n9
  have f4 := hB.1.pc
  have f5 := hB.1.wc
  obtain ⟨x1, hx1⟩ : ∃ z, xs (i + 1) = z := ⟨_, rfl⟩
  obtain ⟨x2, hx2⟩ : ∃ z, xs (i + 2) = z := ⟨_, rfl⟩
  obtain ⟨x3, hx3⟩ : ∃ z, xs (i + 3) = z := ⟨_, rfl⟩
  cases hb : (wIn x1 0 59 && wIn x2 0 (G 0 0 - 1 - 1) && wIn x3 0 3)
  · refine lv_aload_n hz.1 hz.2.1 dL_law_356 rfl (lv_at hl 1 rfl) ?_
    refine lfe (n := 1) hz hX hbl hS hl (by omega) hL hx1 (by decide) dL_law_357 dL_law_358 dL_law_359 dL_law_360 dL_law_361 ?_
    refine lfe (n := 2) hz hX hbl hS hl (by omega) hL hx2 (by decide) dL_law_362 dL_law_363 dL_law_364 dL_law_365 dL_law_366 ?_
    refine lfe (n := 3) hz hX hbl hS hl (by omega) hL hx3 (by decide) dL_law_367 dL_law_368 dL_law_369 dL_law_370 dL_law_371 ?_
    refine wrV (A := lA s_) (As := [.int x1, .int x2, .int x3]) (rest := []) hz (okAm tS sk sv) (c5_pass_bad l_ D k a tS sk sv C F E ((G 0)) x1 x2 x3 hB.2 hB.1 hb) (cwV 3 hz.2.2.2.2 gL_law_X5_pass rfl rfl rfl (by decide +kernel) ⟨Nat.le_of_ble_eq_true rfl, Nat.le_of_ble_eq_true rfl⟩) hK hy (p0.app p1) (D_ix ha [0, 1, 2, 3, 4, 5, 6, 7, 8] rfl (by decide) (by decide)) hS 0 5 rfl rfl rfl rfl hl.1 rfl (Nat.le_of_ble_eq_true rfl) dL_law_372 ⟨Nat.le_of_ble_eq_true rfl, Nat.le_of_ble_eq_true rfl⟩ (fun r u H1 locs hp hP1 hS hfr => ?_)
    obtain rfl : r = -2 := hp
    have p0 := hP1.left
    have hP1 := hP1.right
    have p1 := hP1
    have kp : ∀ (g_ : va_W) (jx : List Nat), g_.map (fun q => q.1) = jx.map a → (∀ j ∈ jx, j < 54) → (∀ j ∈ jx, j ∉ ([0, 1, 2, 3, 4, 5, 6, 7, 8] : List Nat)) → va_P D vwCl g_ H → va_P D vwCl g_ H1 := fun g_ jx h1 h2 h3 h4 => keepG (wc := ho a C ++ (bw a 1 k F E)) ha [0, 1, 2, 3, 4, 5, 6, 7, 8] jx rfl h1 (by decide) h2 h3 h4 hfr
    have p2 := kp _ [9, 10, 11, 12, 13, 14, 15, 16] rfl (by decide) (by decide) p2
    have p3 := kp _ [17] rfl (by decide) (by decide) p3
    have p4 := kp _ [18, 19, 20, 21, 22, 23, 24, 25] rfl (by decide) (by decide) p4
    have p5 := kp _ [26, 27, 28, 29, 30, 31, 32, 33] rfl (by decide) (by decide) p5
    have p6 := kp _ [34] rfl (by decide) (by decide) p6
    have p7 := kp _ [35, 36] rfl (by decide) (by decide) p7
    have p8 := kp _ [37, 38] rfl (by decide) (by decide) p8
    have p9 := kp _ [39, 40, 41, 42, 43, 44, 45, 46, 47, 48, 49, 50, 51, 52] rfl (by decide) (by decide) p9
    have p10 := kp _ [53] rfl (by decide) (by decide) p10
    have pm := keepX (wc := ho a C ++ (bw a 1 k F E)) (g := mw b k I J G) hab [0, 1, 2, 3, 4, 5, 6, 7, 8] [0, 1, 2, 3, 4, 5, 6, 7, 8, 9, 10, 11, 12] rfl rfl (by decide) (by decide) pm hfr
    refine lv_aload_n hz.1 hz.2.1 dL_law_375 rfl (lv_at hl 2 rfl) ?_
    refine lfe (n := 1) hz hX hbl hS hl (by omega) hL hx1 (by decide) dL_law_376 dL_law_377 dL_law_378 dL_law_379 dL_law_380 ?_
    refine lfe (n := 2) hz hX hbl hS hl (by omega) hL hx2 (by decide) dL_law_381 dL_law_382 dL_law_383 dL_law_384 dL_law_385 ?_
    refine lfe (n := 3) hz hX hbl hS hl (by omega) hL hx3 (by decide) dL_law_386 dL_law_387 dL_law_388 dL_law_389 dL_law_390 ?_
    refine wrV (A := lA s_) (As := [.int x1, .int x2, .int x3]) (rest := [.int (-2)]) hz okYT (c6_pass_bad l_ D k b I J G x1 x2 x3 hB.1 hb) (cwV 3 hz.2.2.2.2 gL_law_X6_pass rfl rfl rfl (by decide +kernel) ⟨Nat.le_of_ble_eq_true rfl, Nat.le_of_ble_eq_true rfl⟩) hK trivial pm (D_ix hbk [0, 1, 2, 3, 4, 5, 6, 7, 8, 9, 10, 11, 12] rfl (by decide) (by decide)) hS 0 6 rfl rfl rfl rfl hl.1 rfl (Nat.le_of_ble_eq_true rfl) dL_law_391 ⟨Nat.le_of_ble_eq_true rfl, Nat.le_of_ble_eq_true rfl⟩ (fun r u H1 locs hp hP1 hS hfr => ?_)
    obtain rfl : r = -2 := hp
    have pm := hP1
    have pc_ : CPs D k a (nset C 0 (C 0 + 1)) F E Fd Ed Fp Ep Fq Eg K X ((G 9)) Z S Rr Y Nt Sl Mt Ch Q H1 := CPs.kept ⟨p0, p1, p2, p3, p4, p5, p6, p7, p8, p9, p10⟩ hba hfr
    obtain ⟨p0, p1, p2, p3, p4, p5, p6, p7, p8, p9, p10⟩ := pc_
    refine cmpE (tgt := 1063) hz (rfl) dL_law_394 (by decide) ?_
    exact hk _ _ ⟨nset C 0 (C 0 + 1), F, E, Fd, Ed, Fp, Ep, Fq, Eg, K, X, (G 9), Z, S, Rr, Y, Nt, Sl, Mt, Ch, Q, I, J, gset G 3 (sRef (G 3) 0), ⟨hB, hC.s0, hT, hQ, hM, hU⟩, ⟨p0, p1, p2, p3, p4, p5, p6, p7, p8, p9, p10⟩, pm⟩ hS ls hl
  · simp only [Bool.and_eq_true] at hb
    obtain ⟨⟨hb1, hb2⟩, hb3⟩ := hb
    obtain ⟨mn, ⟨mnl, mnh⟩, rfl⟩ := wIn_t (by omega) (by omega) hb1
    obtain ⟨w, ⟨wl, wh⟩, rfl⟩ := wIn_t (by omega) (by omega) hb2
    obtain ⟨sp, ⟨spl, sph⟩, rfl⟩ := wIn_t (by omega) (by omega) hb3
    rcases Nat.lt_or_ge (G 0 32) 8 with hc | hc
    · refine lv_aload_n hz.1 hz.2.1 dL_law_356 rfl (lv_at hl 1 rfl) ?_
      refine lfe (n := 1) hz hX hbl hS hl (by omega) hL hx1 (by decide) dL_law_357 dL_law_358 dL_law_359 dL_law_360 dL_law_361 ?_
      refine lfe (n := 2) hz hX hbl hS hl (by omega) hL hx2 (by decide) dL_law_362 dL_law_363 dL_law_364 dL_law_365 dL_law_366 ?_
      refine lfe (n := 3) hz hX hbl hS hl (by omega) hL hx3 (by decide) dL_law_367 dL_law_368 dL_law_369 dL_law_370 dL_law_371 ?_
      refine wrV (A := lA s_) (As := [.int (nI mn), .int (nI w), .int (nI sp)]) (rest := []) hz (okAm tS sk sv) (c5_pass_ok l_ D k a tS sk sv C F E ((G 0)) mn w sp hB.2 hB.1 (by omega) (by omega) sph hc) (cwV 3 hz.2.2.2.2 gL_law_X5_pass rfl rfl rfl (by decide +kernel) ⟨Nat.le_of_ble_eq_true rfl, Nat.le_of_ble_eq_true rfl⟩) hK hy (p0.app p1) (D_ix ha [0, 1, 2, 3, 4, 5, 6, 7, 8] rfl (by decide) (by decide)) hS 0 5 rfl rfl rfl rfl hl.1 rfl (Nat.le_of_ble_eq_true rfl) dL_law_372 ⟨Nat.le_of_ble_eq_true rfl, Nat.le_of_ble_eq_true rfl⟩ (fun r u H1 locs hp hP1 hS hfr => ?_)
      obtain rfl : r = nI ((G 0) 32) := hp
      have p0 := hP1.left
      have hP1 := hP1.right
      have p1 := hP1
      have kp : ∀ (g_ : va_W) (jx : List Nat), g_.map (fun q => q.1) = jx.map a → (∀ j ∈ jx, j < 54) → (∀ j ∈ jx, j ∉ ([0, 1, 2, 3, 4, 5, 6, 7, 8] : List Nat)) → va_P D vwCl g_ H → va_P D vwCl g_ H1 := fun g_ jx h1 h2 h3 h4 => keepG (wc := ho a C ++ (bw a 1 k F E)) ha [0, 1, 2, 3, 4, 5, 6, 7, 8] jx rfl h1 (by decide) h2 h3 h4 hfr
      have p2 := kp _ [9, 10, 11, 12, 13, 14, 15, 16] rfl (by decide) (by decide) p2
      have p3 := kp _ [17] rfl (by decide) (by decide) p3
      have p4 := kp _ [18, 19, 20, 21, 22, 23, 24, 25] rfl (by decide) (by decide) p4
      have p5 := kp _ [26, 27, 28, 29, 30, 31, 32, 33] rfl (by decide) (by decide) p5
      have p6 := kp _ [34] rfl (by decide) (by decide) p6
      have p7 := kp _ [35, 36] rfl (by decide) (by decide) p7
      have p8 := kp _ [37, 38] rfl (by decide) (by decide) p8
      have p9 := kp _ [39, 40, 41, 42, 43, 44, 45, 46, 47, 48, 49, 50, 51, 52] rfl (by decide) (by decide) p9
      have p10 := kp _ [53] rfl (by decide) (by decide) p10
      have pm := keepX (wc := ho a C ++ (bw a 1 k F E)) (g := mw b k I J G) hab [0, 1, 2, 3, 4, 5, 6, 7, 8] [0, 1, 2, 3, 4, 5, 6, 7, 8, 9, 10, 11, 12] rfl rfl (by decide) (by decide) pm hfr
      refine lv_aload_n hz.1 hz.2.1 dL_law_375 rfl (lv_at hl 2 rfl) ?_
      refine lfe (n := 1) hz hX hbl hS hl (by omega) hL hx1 (by decide) dL_law_376 dL_law_377 dL_law_378 dL_law_379 dL_law_380 ?_
      refine lfe (n := 2) hz hX hbl hS hl (by omega) hL hx2 (by decide) dL_law_381 dL_law_382 dL_law_383 dL_law_384 dL_law_385 ?_
      refine lfe (n := 3) hz hX hbl hS hl (by omega) hL hx3 (by decide) dL_law_386 dL_law_387 dL_law_388 dL_law_389 dL_law_390 ?_
      refine wrV (A := lA s_) (As := [.int (nI mn), .int (nI w), .int (nI sp)]) (rest := [.int (nI ((G 0) 32))]) hz okYT (c6_pass_ok l_ D k b I J G mn w sp hB.1 (by omega) (by omega) sph hc) (cwV 3 hz.2.2.2.2 gL_law_X6_pass rfl rfl rfl (by decide +kernel) ⟨Nat.le_of_ble_eq_true rfl, Nat.le_of_ble_eq_true rfl⟩) hK trivial pm (D_ix hbk [0, 1, 2, 3, 4, 5, 6, 7, 8, 9, 10, 11, 12] rfl (by decide) (by decide)) hS 0 6 rfl rfl rfl rfl hl.1 rfl (Nat.le_of_ble_eq_true rfl) dL_law_391 ⟨Nat.le_of_ble_eq_true rfl, Nat.le_of_ble_eq_true rfl⟩ (fun r u H1 locs hp hP1 hS hfr => ?_)
      obtain rfl : r = nI (G 0 32) := hp
      have pm := hP1
      have pc_ : CPs D k a C (nset F 4 (F 4 + 1)) (gset (gset (gset E 4 (nset (E 4) (F 4) mn)) 5 (nset (E 5) (F 4) w)) 6 (nset (E 6) (F 4) sp)) Fd Ed Fp Ep Fq Eg K X ((G 9)) Z S Rr Y Nt Sl Mt Ch Q H1 := CPs.kept ⟨p0, p1, p2, p3, p4, p5, p6, p7, p8, p9, p10⟩ hba hfr
      obtain ⟨p0, p1, p2, p3, p4, p5, p6, p7, p8, p9, p10⟩ := pc_
      refine cmpE (tgt := 1063) hz (rfl) dL_law_394 (by decide) ?_
      exact hk _ _ ⟨C, nset F 4 (F 4 + 1), gset (gset (gset E 4 (nset (E 4) (F 4) mn)) 5 (nset (E 5) (F 4) w)) 6 (nset (E 6) (F 4) sp), Fd, Ed, Fp, Ep, Fq, Eg, K, X, (G 9), Z, S, Rr, Y, Nt, Sl, Mt, Ch, Q, I, J, gset G 0 (sAddPass (G 0) mn w sp), ⟨⟨hB.1.addPass hc (by omega) (by omega) sph, hB.2.addPass f5 _ _ _⟩, hC, hT, hQ, hM, hU⟩, ⟨p0, p1, p2, p3, p4, p5, p6, p7, p8, p9, p10⟩, pm⟩ hS ls hl
    · refine lv_aload_n hz.1 hz.2.1 dL_law_356 rfl (lv_at hl 1 rfl) ?_
      refine lfe (n := 1) hz hX hbl hS hl (by omega) hL hx1 (by decide) dL_law_357 dL_law_358 dL_law_359 dL_law_360 dL_law_361 ?_
      refine lfe (n := 2) hz hX hbl hS hl (by omega) hL hx2 (by decide) dL_law_362 dL_law_363 dL_law_364 dL_law_365 dL_law_366 ?_
      refine lfe (n := 3) hz hX hbl hS hl (by omega) hL hx3 (by decide) dL_law_367 dL_law_368 dL_law_369 dL_law_370 dL_law_371 ?_
      refine wrV (A := lA s_) (As := [.int (nI mn), .int (nI w), .int (nI sp)]) (rest := []) hz (okAm tS sk sv) (c5_pass_full l_ D k a tS sk sv C F E ((G 0)) mn w sp hB.2 hB.1 (by omega) (by omega) sph (by omega)) (cwV 3 hz.2.2.2.2 gL_law_X5_pass rfl rfl rfl (by decide +kernel) ⟨Nat.le_of_ble_eq_true rfl, Nat.le_of_ble_eq_true rfl⟩) hK hy (p0.app p1) (D_ix ha [0, 1, 2, 3, 4, 5, 6, 7, 8] rfl (by decide) (by decide)) hS 0 5 rfl rfl rfl rfl hl.1 rfl (Nat.le_of_ble_eq_true rfl) dL_law_372 ⟨Nat.le_of_ble_eq_true rfl, Nat.le_of_ble_eq_true rfl⟩ (fun r u H1 locs hp hP1 hS hfr => ?_)
      obtain rfl : r = -4 := hp
      have p0 := hP1.left
      have hP1 := hP1.right
      have p1 := hP1
      have kp : ∀ (g_ : va_W) (jx : List Nat), g_.map (fun q => q.1) = jx.map a → (∀ j ∈ jx, j < 54) → (∀ j ∈ jx, j ∉ ([0, 1, 2, 3, 4, 5, 6, 7, 8] : List Nat)) → va_P D vwCl g_ H → va_P D vwCl g_ H1 := fun g_ jx h1 h2 h3 h4 => keepG (wc := ho a C ++ (bw a 1 k F E)) ha [0, 1, 2, 3, 4, 5, 6, 7, 8] jx rfl h1 (by decide) h2 h3 h4 hfr
      have p2 := kp _ [9, 10, 11, 12, 13, 14, 15, 16] rfl (by decide) (by decide) p2
      have p3 := kp _ [17] rfl (by decide) (by decide) p3
      have p4 := kp _ [18, 19, 20, 21, 22, 23, 24, 25] rfl (by decide) (by decide) p4
      have p5 := kp _ [26, 27, 28, 29, 30, 31, 32, 33] rfl (by decide) (by decide) p5
      have p6 := kp _ [34] rfl (by decide) (by decide) p6
      have p7 := kp _ [35, 36] rfl (by decide) (by decide) p7
      have p8 := kp _ [37, 38] rfl (by decide) (by decide) p8
      have p9 := kp _ [39, 40, 41, 42, 43, 44, 45, 46, 47, 48, 49, 50, 51, 52] rfl (by decide) (by decide) p9
      have p10 := kp _ [53] rfl (by decide) (by decide) p10
      have pm := keepX (wc := ho a C ++ (bw a 1 k F E)) (g := mw b k I J G) hab [0, 1, 2, 3, 4, 5, 6, 7, 8] [0, 1, 2, 3, 4, 5, 6, 7, 8, 9, 10, 11, 12] rfl rfl (by decide) (by decide) pm hfr
      refine lv_aload_n hz.1 hz.2.1 dL_law_375 rfl (lv_at hl 2 rfl) ?_
      refine lfe (n := 1) hz hX hbl hS hl (by omega) hL hx1 (by decide) dL_law_376 dL_law_377 dL_law_378 dL_law_379 dL_law_380 ?_
      refine lfe (n := 2) hz hX hbl hS hl (by omega) hL hx2 (by decide) dL_law_381 dL_law_382 dL_law_383 dL_law_384 dL_law_385 ?_
      refine lfe (n := 3) hz hX hbl hS hl (by omega) hL hx3 (by decide) dL_law_386 dL_law_387 dL_law_388 dL_law_389 dL_law_390 ?_
      refine wrV (A := lA s_) (As := [.int (nI mn), .int (nI w), .int (nI sp)]) (rest := [.int (-4)]) hz okYT (c6_pass_full l_ D k b I J G mn w sp hB.1 (by omega) (by omega) sph (by omega)) (cwV 3 hz.2.2.2.2 gL_law_X6_pass rfl rfl rfl (by decide +kernel) ⟨Nat.le_of_ble_eq_true rfl, Nat.le_of_ble_eq_true rfl⟩) hK trivial pm (D_ix hbk [0, 1, 2, 3, 4, 5, 6, 7, 8, 9, 10, 11, 12] rfl (by decide) (by decide)) hS 0 6 rfl rfl rfl rfl hl.1 rfl (Nat.le_of_ble_eq_true rfl) dL_law_391 ⟨Nat.le_of_ble_eq_true rfl, Nat.le_of_ble_eq_true rfl⟩ (fun r u H1 locs hp hP1 hS hfr => ?_)
      obtain rfl : r = -4 := hp
      have pm := hP1
      have pc_ : CPs D k a (nset C 2 (C 2 + 1)) F E Fd Ed Fp Ep Fq Eg K X ((G 9)) Z S Rr Y Nt Sl Mt Ch Q H1 := CPs.kept ⟨p0, p1, p2, p3, p4, p5, p6, p7, p8, p9, p10⟩ hba hfr
      obtain ⟨p0, p1, p2, p3, p4, p5, p6, p7, p8, p9, p10⟩ := pc_
      refine cmpE (tgt := 1063) hz (rfl) dL_law_394 (by decide) ?_
      exact hk _ _ ⟨nset C 2 (C 2 + 1), F, E, Fd, Ed, Fp, Ep, Fq, Eg, K, X, (G 9), Z, S, Rr, Y, Nt, Sl, Mt, Ch, Q, I, J, gset G 3 (sRef (G 3) 2), ⟨hB, hC.s2, hT, hQ, hM, hU⟩, ⟨p0, p1, p2, p3, p4, p5, p6, p7, p8, p9, p10⟩, pm⟩ hS ls hl

set_option maxHeartbeats 4000000 in
set_option maxRecDepth 100000 in
theorem law_undo {p_ : Program} {l_ : Launch} {e_ : Env} {s_ : State} {m_ : MethodId} {bl_ : List Frame} {me_ : Method} {c_ : Code} {D : va_G} {k : Nat → ClassId} {a b : Nat → Nat} {b0 L : Nat} {xs : Nat → Int32} {tS : Nat} {sk sv : Nat → Nat} {i : Nat} (E0 : LE p_ s_ m_ c_ D k a b b0 L xs tS sk sv) (hi : i + 6 ≤ L) (hk : LK p_ l_ e_ s_ m_ bl_ me_ c_ D k a b b0 i 1063) : LK p_ l_ e_ s_ m_ bl_ me_ c_ D k a b b0 i 399 := by
  obtain ⟨hz, hX, hbl, hK, hy, ha, hbk, hab, hL⟩ := E0
  have hba : ∀ i j, i < 13 → j < 54 → b i ≠ a j := fun i j h1 h2 q => hab j i h2 h1 q.symm
  intro H locs hI hS ls hl
  obtain ⟨C, F, E, Fd, Ed, Fp, Ep, Fq, Eg, K, X, T, Z, S, Rr, Y, Nt, Sl, Mt, Ch, Q, I, J, G, ⟨hB, hC, hT, hQ, hM, hU⟩, ⟨p0, p1, p2, p3, p4, p5, p6, p7, p8, p9, p10⟩, pm⟩ := id hI
  obtain ⟨eX, hI2, rfl, hTb⟩ := hT
  have hT : LT X (G 9) I (G 9) := ⟨eX, hI2, rfl, hTb⟩
  have f0 := hB.1.n2
  have f1 := hB.1.n9
  have f4 := hB.1.pc
  have f5 := hB.1.wc
  rcases Nat.eq_zero_or_pos (G 0 32) with hc | hc
  · refine lv_aload_n hz.1 hz.2.1 dL_law_399 rfl (lv_at hl 1 rfl) ?_
    refine wrV (A := lA s_) (As := []) (rest := []) hz (okAm tS sk sv) (c5_undo_no l_ D k a tS sk sv C F E ((G 0)) hB.2 hB.1 hc) (cwV 0 hz.2.2.2.2 gL_law_X5_undo rfl rfl rfl (by decide +kernel) ⟨Nat.le_of_ble_eq_true rfl, Nat.le_of_ble_eq_true rfl⟩) hK hy (p0.app p1) (D_ix ha [0, 1, 2, 3, 4, 5, 6, 7, 8] rfl (by decide) (by decide)) hS 0 5 rfl rfl rfl rfl hl.1 rfl (Nat.le_of_ble_eq_true rfl) dL_law_400 ⟨Nat.le_of_ble_eq_true rfl, Nat.le_of_ble_eq_true rfl⟩ (fun r u H1 locs hp hP1 hS hfr => ?_)
    obtain rfl : r = -3 := hp
    have p0 := hP1.left
    have hP1 := hP1.right
    have p1 := hP1
    have kp : ∀ (g_ : va_W) (jx : List Nat), g_.map (fun q => q.1) = jx.map a → (∀ j ∈ jx, j < 54) → (∀ j ∈ jx, j ∉ ([0, 1, 2, 3, 4, 5, 6, 7, 8] : List Nat)) → va_P D vwCl g_ H → va_P D vwCl g_ H1 := fun g_ jx h1 h2 h3 h4 => keepG (wc := ho a C ++ (bw a 1 k F E)) ha [0, 1, 2, 3, 4, 5, 6, 7, 8] jx rfl h1 (by decide) h2 h3 h4 hfr
    have p2 := kp _ [9, 10, 11, 12, 13, 14, 15, 16] rfl (by decide) (by decide) p2
    have p3 := kp _ [17] rfl (by decide) (by decide) p3
    have p4 := kp _ [18, 19, 20, 21, 22, 23, 24, 25] rfl (by decide) (by decide) p4
    have p5 := kp _ [26, 27, 28, 29, 30, 31, 32, 33] rfl (by decide) (by decide) p5
    have p6 := kp _ [34] rfl (by decide) (by decide) p6
    have p7 := kp _ [35, 36] rfl (by decide) (by decide) p7
    have p8 := kp _ [37, 38] rfl (by decide) (by decide) p8
    have p9 := kp _ [39, 40, 41, 42, 43, 44, 45, 46, 47, 48, 49, 50, 51, 52] rfl (by decide) (by decide) p9
    have p10 := kp _ [53] rfl (by decide) (by decide) p10
    have pm := keepX (wc := ho a C ++ (bw a 1 k F E)) (g := mw b k I J G) hab [0, 1, 2, 3, 4, 5, 6, 7, 8] [0, 1, 2, 3, 4, 5, 6, 7, 8, 9, 10, 11, 12] rfl rfl (by decide) (by decide) pm hfr
    refine lv_aload_n hz.1 hz.2.1 dL_law_403 rfl (lv_at hl 2 rfl) ?_
    refine wrV (A := lA s_) (As := []) (rest := [.int (-3)]) hz okYT (c6_undo_no l_ D k b I J G  hB.1 hc) (cwV 0 hz.2.2.2.2 gL_law_X6_undo rfl rfl rfl (by decide +kernel) ⟨Nat.le_of_ble_eq_true rfl, Nat.le_of_ble_eq_true rfl⟩) hK trivial pm (D_ix hbk [0, 1, 2, 3, 4, 5, 6, 7, 8, 9, 10, 11, 12] rfl (by decide) (by decide)) hS 0 6 rfl rfl rfl rfl hl.1 rfl (Nat.le_of_ble_eq_true rfl) dL_law_404 ⟨Nat.le_of_ble_eq_true rfl, Nat.le_of_ble_eq_true rfl⟩ (fun r u H1 locs hp hP1 hS hfr => ?_)
    obtain rfl : r = -3 := hp
    have pm := hP1
    have pc_ : CPs D k a (nset C 1 (C 1 + 1)) F E Fd Ed Fp Ep Fq Eg K X ((G 9)) Z S Rr Y Nt Sl Mt Ch Q H1 := CPs.kept ⟨p0, p1, p2, p3, p4, p5, p6, p7, p8, p9, p10⟩ hba hfr
    obtain ⟨p0, p1, p2, p3, p4, p5, p6, p7, p8, p9, p10⟩ := pc_
    refine cmpE (tgt := 1063) hz (rfl) dL_law_407 (by decide) ?_
    exact hk _ _ ⟨nset C 1 (C 1 + 1), F, E, Fd, Ed, Fp, Ep, Fq, Eg, K, X, (G 9), Z, S, Rr, Y, Nt, Sl, Mt, Ch, Q, I, J, gset G 3 (sRef (G 3) 1), ⟨hB, hC.s1, hT, hQ, hM, hU⟩, ⟨p0, p1, p2, p3, p4, p5, p6, p7, p8, p9, p10⟩, pm⟩ hS ls hl
  · refine lv_aload_n hz.1 hz.2.1 dL_law_399 rfl (lv_at hl 1 rfl) ?_
    refine wrV (A := lA s_) (As := []) (rest := []) hz (okAm tS sk sv) (c5_undo_ok l_ D k a tS sk sv C F E ((G 0)) hB.2 hB.1 hc) (cwV 0 hz.2.2.2.2 gL_law_X5_undo rfl rfl rfl (by decide +kernel) ⟨Nat.le_of_ble_eq_true rfl, Nat.le_of_ble_eq_true rfl⟩) hK hy (p0.app p1) (D_ix ha [0, 1, 2, 3, 4, 5, 6, 7, 8] rfl (by decide) (by decide)) hS 0 5 rfl rfl rfl rfl hl.1 rfl (Nat.le_of_ble_eq_true rfl) dL_law_400 ⟨Nat.le_of_ble_eq_true rfl, Nat.le_of_ble_eq_true rfl⟩ (fun r u H1 locs hp hP1 hS hfr => ?_)
    obtain rfl : r = nI ((G 0) 32 - 1) := hp
    have p0 := hP1.left
    have hP1 := hP1.right
    have p1 := hP1
    have kp : ∀ (g_ : va_W) (jx : List Nat), g_.map (fun q => q.1) = jx.map a → (∀ j ∈ jx, j < 54) → (∀ j ∈ jx, j ∉ ([0, 1, 2, 3, 4, 5, 6, 7, 8] : List Nat)) → va_P D vwCl g_ H → va_P D vwCl g_ H1 := fun g_ jx h1 h2 h3 h4 => keepG (wc := ho a C ++ (bw a 1 k F E)) ha [0, 1, 2, 3, 4, 5, 6, 7, 8] jx rfl h1 (by decide) h2 h3 h4 hfr
    have p2 := kp _ [9, 10, 11, 12, 13, 14, 15, 16] rfl (by decide) (by decide) p2
    have p3 := kp _ [17] rfl (by decide) (by decide) p3
    have p4 := kp _ [18, 19, 20, 21, 22, 23, 24, 25] rfl (by decide) (by decide) p4
    have p5 := kp _ [26, 27, 28, 29, 30, 31, 32, 33] rfl (by decide) (by decide) p5
    have p6 := kp _ [34] rfl (by decide) (by decide) p6
    have p7 := kp _ [35, 36] rfl (by decide) (by decide) p7
    have p8 := kp _ [37, 38] rfl (by decide) (by decide) p8
    have p9 := kp _ [39, 40, 41, 42, 43, 44, 45, 46, 47, 48, 49, 50, 51, 52] rfl (by decide) (by decide) p9
    have p10 := kp _ [53] rfl (by decide) (by decide) p10
    have pm := keepX (wc := ho a C ++ (bw a 1 k F E)) (g := mw b k I J G) hab [0, 1, 2, 3, 4, 5, 6, 7, 8] [0, 1, 2, 3, 4, 5, 6, 7, 8, 9, 10, 11, 12] rfl rfl (by decide) (by decide) pm hfr
    refine lv_aload_n hz.1 hz.2.1 dL_law_403 rfl (lv_at hl 2 rfl) ?_
    refine wrV (A := lA s_) (As := []) (rest := [.int (nI ((G 0) 32 - 1))]) hz okYT (c6_undo_ok l_ D k b I J G  hB.1 hc) (cwV 0 hz.2.2.2.2 gL_law_X6_undo rfl rfl rfl (by decide +kernel) ⟨Nat.le_of_ble_eq_true rfl, Nat.le_of_ble_eq_true rfl⟩) hK trivial pm (D_ix hbk [0, 1, 2, 3, 4, 5, 6, 7, 8, 9, 10, 11, 12] rfl (by decide) (by decide)) hS 0 6 rfl rfl rfl rfl hl.1 rfl (Nat.le_of_ble_eq_true rfl) dL_law_404 ⟨Nat.le_of_ble_eq_true rfl, Nat.le_of_ble_eq_true rfl⟩ (fun r u H1 locs hp hP1 hS hfr => ?_)
    obtain rfl : r = nI (G 0 32 - 1) := hp
    have pm := hP1
    have pc_ : CPs D k a C (nset F 4 ((G 0) 32 - 1)) E Fd Ed Fp Ep Fq Eg K X ((G 9)) Z S Rr Y Nt Sl Mt Ch Q H1 := CPs.kept ⟨p0, p1, p2, p3, p4, p5, p6, p7, p8, p9, p10⟩ hba hfr
    obtain ⟨p0, p1, p2, p3, p4, p5, p6, p7, p8, p9, p10⟩ := pc_
    refine cmpE (tgt := 1063) hz (rfl) dL_law_407 (by decide) ?_
    exact hk _ _ ⟨C, nset F 4 ((G 0) 32 - 1), E, Fd, Ed, Fp, Ep, Fq, Eg, K, X, (G 9), Z, S, Rr, Y, Nt, Sl, Mt, Ch, Q, I, J, gset G 0 (nset (G 0) 32 (G 0 32 - 1)), ⟨⟨hB.1.small (Or.inr (Or.inr (Or.inr ⟨rfl, by omega⟩))), hB.2.passes (by omega) f5⟩, hC, hT, hQ, hM, hU⟩, ⟨p0, p1, p2, p3, p4, p5, p6, p7, p8, p9, p10⟩, pm⟩ hS ls hl

set_option maxHeartbeats 4000000 in
set_option maxRecDepth 100000 in
theorem law_type {p_ : Program} {l_ : Launch} {e_ : Env} {s_ : State} {m_ : MethodId} {bl_ : List Frame} {me_ : Method} {c_ : Code} {D : va_G} {k : Nat → ClassId} {a b : Nat → Nat} {b0 L : Nat} {xs : Nat → Int32} {tS : Nat} {sk sv : Nat → Nat} {i : Nat} (E0 : LE p_ s_ m_ c_ D k a b b0 L xs tS sk sv) (hi : i + 6 ≤ L) (hk : LK p_ l_ e_ s_ m_ bl_ me_ c_ D k a b b0 i 1063) : LK p_ l_ e_ s_ m_ bl_ me_ c_ D k a b b0 i 412 := by
  obtain ⟨hz, hX, hbl, hK, hy, ha, hbk, hab, hL⟩ := E0
  have hba : ∀ i j, i < 13 → j < 54 → b i ≠ a j := fun i j h1 h2 q => hab j i h2 h1 q.symm
  intro H locs hI hS ls hl
  obtain ⟨C, F, E, Fd, Ed, Fp, Ep, Fq, Eg, K, X, T, Z, S, Rr, Y, Nt, Sl, Mt, Ch, Q, I, J, G, ⟨hB, hC, hT, hQ, hM, hU⟩, ⟨p0, p1, p2, p3, p4, p5, p6, p7, p8, p9, p10⟩, pm⟩ := id hI
  obtain ⟨eX, hI2, rfl, hTb⟩ := hT
  have hT : LT X (G 9) I (G 9) := ⟨eX, hI2, rfl, hTb⟩
  have f0 := hB.1.n2
  have f1 := hB.1.n9
  have f4 := hB.1.pc
  have f5 := hB.1.wc
  obtain ⟨x1, hx1⟩ : ∃ z, xs (i + 1) = z := ⟨_, rfl⟩
  obtain ⟨x2, hx2⟩ : ∃ z, xs (i + 2) = z := ⟨_, rfl⟩
  obtain ⟨x3, hx3⟩ : ∃ z, xs (i + 3) = z := ⟨_, rfl⟩
  cases hb : (wIn x3 1 8)
  · refine lv_aload_n hz.1 hz.2.1 dL_law_412 rfl (lv_at hl 1 rfl) ?_
    refine lfe (n := 1) hz hX hbl hS hl (by omega) hL hx1 (by decide) dL_law_413 dL_law_414 dL_law_415 dL_law_416 dL_law_417 ?_
    refine lv_i2l (v := _) hz.1 hz.2.1 dL_law_418 rfl ?_
    refine lv_bipush (v := nI 32) hz.1 hz.2.1 dL_law_419 (by decide) ?_
    refine lv_lshl (v := _) hz.1 hz.2.1 dL_law_421 rfl ?_
    refine lfe (n := 2) hz hX hbl hS hl (by omega) hL hx2 (by decide) dL_law_422 dL_law_423 dL_law_424 dL_law_425 dL_law_426 ?_
    refine lv_i2l (v := _) hz.1 hz.2.1 dL_law_427 rfl ?_
    refine lv_ldc2 (own := RL) (v := 4294967295) hz.1 hz.2.1 hz.2.2.2.1 (hz.2.2.2.2 (.constantLong RL 50 (4294967295)) (List.mem_of_getElem? (i := 6) rfl)) dL_law_428 ?_
    refine lv_land hz.1 hz.2.1 dL_law_431 ?_
    refine lv_lor hz.1 hz.2.1 dL_law_432 ?_
    refine lv_topl (fun v ev => ?_)
    refine lfe (n := 3) hz hX hbl hS hl (by omega) hL hx3 (by decide) dL_law_433 dL_law_434 dL_law_435 dL_law_436 dL_law_437 ?_
    refine wrV (A := lA s_) (As := [.long v, .int x3]) (rest := []) hz (okAm tS sk sv) (c5_type_bad l_ D k a tS sk sv C F E ((G 0)) v x3 hB.2 hB.1 hb) (cwV 2 hz.2.2.2.2 gL_law_X5_type rfl rfl rfl (by decide +kernel) ⟨Nat.le_of_ble_eq_true rfl, Nat.le_of_ble_eq_true rfl⟩) hK hy (p0.app p1) (D_ix ha [0, 1, 2, 3, 4, 5, 6, 7, 8] rfl (by decide) (by decide)) hS 0 5 rfl rfl rfl rfl hl.1 rfl (Nat.le_of_ble_eq_true rfl) dL_law_438 ⟨Nat.le_of_ble_eq_true rfl, Nat.le_of_ble_eq_true rfl⟩ (fun r u H1 locs hp hP1 hS hfr => ?_)
    obtain rfl : r = -2 := hp
    have p0 := hP1.left
    have hP1 := hP1.right
    have p1 := hP1
    have kp : ∀ (g_ : va_W) (jx : List Nat), g_.map (fun q => q.1) = jx.map a → (∀ j ∈ jx, j < 54) → (∀ j ∈ jx, j ∉ ([0, 1, 2, 3, 4, 5, 6, 7, 8] : List Nat)) → va_P D vwCl g_ H → va_P D vwCl g_ H1 := fun g_ jx h1 h2 h3 h4 => keepG (wc := ho a C ++ (bw a 1 k F E)) ha [0, 1, 2, 3, 4, 5, 6, 7, 8] jx rfl h1 (by decide) h2 h3 h4 hfr
    have p2 := kp _ [9, 10, 11, 12, 13, 14, 15, 16] rfl (by decide) (by decide) p2
    have p3 := kp _ [17] rfl (by decide) (by decide) p3
    have p4 := kp _ [18, 19, 20, 21, 22, 23, 24, 25] rfl (by decide) (by decide) p4
    have p5 := kp _ [26, 27, 28, 29, 30, 31, 32, 33] rfl (by decide) (by decide) p5
    have p6 := kp _ [34] rfl (by decide) (by decide) p6
    have p7 := kp _ [35, 36] rfl (by decide) (by decide) p7
    have p8 := kp _ [37, 38] rfl (by decide) (by decide) p8
    have p9 := kp _ [39, 40, 41, 42, 43, 44, 45, 46, 47, 48, 49, 50, 51, 52] rfl (by decide) (by decide) p9
    have p10 := kp _ [53] rfl (by decide) (by decide) p10
    have pm := keepX (wc := ho a C ++ (bw a 1 k F E)) (g := mw b k I J G) hab [0, 1, 2, 3, 4, 5, 6, 7, 8] [0, 1, 2, 3, 4, 5, 6, 7, 8, 9, 10, 11, 12] rfl rfl (by decide) (by decide) pm hfr
    refine lv_aload_n hz.1 hz.2.1 dL_law_441 rfl (lv_at hl 2 rfl) ?_
    refine lfe (n := 1) hz hX hbl hS hl (by omega) hL hx1 (by decide) dL_law_442 dL_law_443 dL_law_444 dL_law_445 dL_law_446 ?_
    refine lv_i2l (v := _) hz.1 hz.2.1 dL_law_447 rfl ?_
    refine lv_bipush (v := nI 32) hz.1 hz.2.1 dL_law_448 (by decide) ?_
    refine lv_lshl (v := _) hz.1 hz.2.1 dL_law_450 rfl ?_
    refine lfe (n := 2) hz hX hbl hS hl (by omega) hL hx2 (by decide) dL_law_451 dL_law_452 dL_law_453 dL_law_454 dL_law_455 ?_
    refine lv_i2l (v := _) hz.1 hz.2.1 dL_law_456 rfl ?_
    refine lv_ldc2 (own := RL) (v := 4294967295) hz.1 hz.2.1 hz.2.2.2.1 (hz.2.2.2.2 (.constantLong RL 50 (4294967295)) (List.mem_of_getElem? (i := 6) rfl)) dL_law_457 ?_
    refine lv_land hz.1 hz.2.1 dL_law_460 ?_
    refine lv_lor hz.1 hz.2.1 dL_law_461 ?_
    refine lv_topl (fun v2 ev2 => ?_)
    obtain rfl : v = v2 := ev.trans ev2.symm
    refine lfe (n := 3) hz hX hbl hS hl (by omega) hL hx3 (by decide) dL_law_462 dL_law_463 dL_law_464 dL_law_465 dL_law_466 ?_
    refine wrV (A := lA s_) (As := [.long v, .int x3]) (rest := [.int (-2)]) hz okYT (c6_type_bad l_ D k b I J G v x3 hb) (cwV 2 hz.2.2.2.2 gL_law_X6_type rfl rfl rfl (by decide +kernel) ⟨Nat.le_of_ble_eq_true rfl, Nat.le_of_ble_eq_true rfl⟩) hK trivial pm (D_ix hbk [0, 1, 2, 3, 4, 5, 6, 7, 8, 9, 10, 11, 12] rfl (by decide) (by decide)) hS 0 6 rfl rfl rfl rfl hl.1 rfl (Nat.le_of_ble_eq_true rfl) dL_law_467 ⟨Nat.le_of_ble_eq_true rfl, Nat.le_of_ble_eq_true rfl⟩ (fun r u H1 locs hp hP1 hS hfr => ?_)
    obtain rfl : r = -2 := hp
    have pm := hP1
    have pc_ : CPs D k a (nset C 0 (C 0 + 1)) F E Fd Ed Fp Ep Fq Eg K X ((G 9)) Z S Rr Y Nt Sl Mt Ch Q H1 := CPs.kept ⟨p0, p1, p2, p3, p4, p5, p6, p7, p8, p9, p10⟩ hba hfr
    obtain ⟨p0, p1, p2, p3, p4, p5, p6, p7, p8, p9, p10⟩ := pc_
    refine cmpE (tgt := 1063) hz (rfl) dL_law_470 (by decide) ?_
    exact hk _ _ ⟨nset C 0 (C 0 + 1), F, E, Fd, Ed, Fp, Ep, Fq, Eg, K, X, (G 9), Z, S, Rr, Y, Nt, Sl, Mt, Ch, Q, I, J, gset G 3 (sRef (G 3) 0), ⟨hB, hC.s0, hT, hQ, hM, hU⟩, ⟨p0, p1, p2, p3, p4, p5, p6, p7, p8, p9, p10⟩, pm⟩ hS ls hl
  · have hb1 := hb
    obtain ⟨n, ⟨nl, nh⟩, rfl⟩ := wIn_t (by omega) (by omega) hb1
    rcases Nat.lt_or_ge 200 (I 0 + n) with hc | hc
    · refine lv_aload_n hz.1 hz.2.1 dL_law_412 rfl (lv_at hl 1 rfl) ?_
      refine lfe (n := 1) hz hX hbl hS hl (by omega) hL hx1 (by decide) dL_law_413 dL_law_414 dL_law_415 dL_law_416 dL_law_417 ?_
      refine lv_i2l (v := _) hz.1 hz.2.1 dL_law_418 rfl ?_
      refine lv_bipush (v := nI 32) hz.1 hz.2.1 dL_law_419 (by decide) ?_
      refine lv_lshl (v := _) hz.1 hz.2.1 dL_law_421 rfl ?_
      refine lfe (n := 2) hz hX hbl hS hl (by omega) hL hx2 (by decide) dL_law_422 dL_law_423 dL_law_424 dL_law_425 dL_law_426 ?_
      refine lv_i2l (v := _) hz.1 hz.2.1 dL_law_427 rfl ?_
      refine lv_ldc2 (own := RL) (v := 4294967295) hz.1 hz.2.1 hz.2.2.2.1 (hz.2.2.2.2 (.constantLong RL 50 (4294967295)) (List.mem_of_getElem? (i := 6) rfl)) dL_law_428 ?_
      refine lv_land hz.1 hz.2.1 dL_law_431 ?_
      refine lv_lor hz.1 hz.2.1 dL_law_432 ?_
      refine lv_topl (fun v ev => ?_)
      refine lfe (n := 3) hz hX hbl hS hl (by omega) hL hx3 (by decide) dL_law_433 dL_law_434 dL_law_435 dL_law_436 dL_law_437 ?_
      refine wrV (A := lA s_) (As := [.long v, .int (nI n)]) (rest := []) hz (okAm tS sk sv) (c5_type_full l_ D k a tS sk sv C F E X ((G 9)) ((G 0)) v n hB.2 hB.1 nl nh (by omega) (by omega)) (cwV 2 hz.2.2.2.2 gL_law_X5_type rfl rfl rfl (by decide +kernel) ⟨Nat.le_of_ble_eq_true rfl, Nat.le_of_ble_eq_true rfl⟩) hK hy (p0.app (p1.app p7)) (D_ix ha [0, 1, 2, 3, 4, 5, 6, 7, 8, 35, 36] rfl (by decide) (by decide)) hS 0 5 rfl rfl rfl rfl hl.1 rfl (Nat.le_of_ble_eq_true rfl) dL_law_438 ⟨Nat.le_of_ble_eq_true rfl, Nat.le_of_ble_eq_true rfl⟩ (fun r u H1 locs hp hP1 hS hfr => ?_)
      obtain rfl : r = -4 := hp
      have p0 := hP1.left
      have hP1 := hP1.right
      have p1 := hP1.left
      have hP1 := hP1.right
      have p7 := hP1
      have kp : ∀ (g_ : va_W) (jx : List Nat), g_.map (fun q => q.1) = jx.map a → (∀ j ∈ jx, j < 54) → (∀ j ∈ jx, j ∉ ([0, 1, 2, 3, 4, 5, 6, 7, 8, 35, 36] : List Nat)) → va_P D vwCl g_ H → va_P D vwCl g_ H1 := fun g_ jx h1 h2 h3 h4 => keepG (wc := ho a C ++ (bw a 1 k F E ++ (tw a k X ((G 9))))) ha [0, 1, 2, 3, 4, 5, 6, 7, 8, 35, 36] jx rfl h1 (by decide) h2 h3 h4 hfr
      have p2 := kp _ [9, 10, 11, 12, 13, 14, 15, 16] rfl (by decide) (by decide) p2
      have p3 := kp _ [17] rfl (by decide) (by decide) p3
      have p4 := kp _ [18, 19, 20, 21, 22, 23, 24, 25] rfl (by decide) (by decide) p4
      have p5 := kp _ [26, 27, 28, 29, 30, 31, 32, 33] rfl (by decide) (by decide) p5
      have p6 := kp _ [34] rfl (by decide) (by decide) p6
      have p8 := kp _ [37, 38] rfl (by decide) (by decide) p8
      have p9 := kp _ [39, 40, 41, 42, 43, 44, 45, 46, 47, 48, 49, 50, 51, 52] rfl (by decide) (by decide) p9
      have p10 := kp _ [53] rfl (by decide) (by decide) p10
      have pm := keepX (wc := ho a C ++ (bw a 1 k F E ++ (tw a k X ((G 9))))) (g := mw b k I J G) hab [0, 1, 2, 3, 4, 5, 6, 7, 8, 35, 36] [0, 1, 2, 3, 4, 5, 6, 7, 8, 9, 10, 11, 12] rfl rfl (by decide) (by decide) pm hfr
      refine lv_aload_n hz.1 hz.2.1 dL_law_441 rfl (lv_at hl 2 rfl) ?_
      refine lfe (n := 1) hz hX hbl hS hl (by omega) hL hx1 (by decide) dL_law_442 dL_law_443 dL_law_444 dL_law_445 dL_law_446 ?_
      refine lv_i2l (v := _) hz.1 hz.2.1 dL_law_447 rfl ?_
      refine lv_bipush (v := nI 32) hz.1 hz.2.1 dL_law_448 (by decide) ?_
      refine lv_lshl (v := _) hz.1 hz.2.1 dL_law_450 rfl ?_
      refine lfe (n := 2) hz hX hbl hS hl (by omega) hL hx2 (by decide) dL_law_451 dL_law_452 dL_law_453 dL_law_454 dL_law_455 ?_
      refine lv_i2l (v := _) hz.1 hz.2.1 dL_law_456 rfl ?_
      refine lv_ldc2 (own := RL) (v := 4294967295) hz.1 hz.2.1 hz.2.2.2.1 (hz.2.2.2.2 (.constantLong RL 50 (4294967295)) (List.mem_of_getElem? (i := 6) rfl)) dL_law_457 ?_
      refine lv_land hz.1 hz.2.1 dL_law_460 ?_
      refine lv_lor hz.1 hz.2.1 dL_law_461 ?_
      refine lv_topl (fun v2 ev2 => ?_)
      obtain rfl : v = v2 := ev.trans ev2.symm
      refine lfe (n := 3) hz hX hbl hS hl (by omega) hL hx3 (by decide) dL_law_462 dL_law_463 dL_law_464 dL_law_465 dL_law_466 ?_
      refine wrV (A := lA s_) (As := [.long v, .int (nI n)]) (rest := [.int (-4)]) hz okYT (c6_type_full l_ D k b I J G v n nl nh hc hI2) (cwV 2 hz.2.2.2.2 gL_law_X6_type rfl rfl rfl (by decide +kernel) ⟨Nat.le_of_ble_eq_true rfl, Nat.le_of_ble_eq_true rfl⟩) hK trivial pm (D_ix hbk [0, 1, 2, 3, 4, 5, 6, 7, 8, 9, 10, 11, 12] rfl (by decide) (by decide)) hS 0 6 rfl rfl rfl rfl hl.1 rfl (Nat.le_of_ble_eq_true rfl) dL_law_467 ⟨Nat.le_of_ble_eq_true rfl, Nat.le_of_ble_eq_true rfl⟩ (fun r u H1 locs hp hP1 hS hfr => ?_)
      obtain rfl : r = -4 := hp
      have pm := hP1
      have pc_ : CPs D k a (nset C 2 (C 2 + 1)) F E Fd Ed Fp Ep Fq Eg K X ((G 9)) Z S Rr Y Nt Sl Mt Ch Q H1 := CPs.kept ⟨p0, p1, p2, p3, p4, p5, p6, p7, p8, p9, p10⟩ hba hfr
      obtain ⟨p0, p1, p2, p3, p4, p5, p6, p7, p8, p9, p10⟩ := pc_
      refine cmpE (tgt := 1063) hz (rfl) dL_law_470 (by decide) ?_
      exact hk _ _ ⟨nset C 2 (C 2 + 1), F, E, Fd, Ed, Fp, Ep, Fq, Eg, K, X, (G 9), Z, S, Rr, Y, Nt, Sl, Mt, Ch, Q, I, J, gset G 3 (sRef (G 3) 2), ⟨hB, hC.s2, hT, hQ, hM, hU⟩, ⟨p0, p1, p2, p3, p4, p5, p6, p7, p8, p9, p10⟩, pm⟩ hS ls hl
    · refine lv_aload_n hz.1 hz.2.1 dL_law_412 rfl (lv_at hl 1 rfl) ?_
      refine lfe (n := 1) hz hX hbl hS hl (by omega) hL hx1 (by decide) dL_law_413 dL_law_414 dL_law_415 dL_law_416 dL_law_417 ?_
      refine lv_i2l (v := _) hz.1 hz.2.1 dL_law_418 rfl ?_
      refine lv_bipush (v := nI 32) hz.1 hz.2.1 dL_law_419 (by decide) ?_
      refine lv_lshl (v := _) hz.1 hz.2.1 dL_law_421 rfl ?_
      refine lfe (n := 2) hz hX hbl hS hl (by omega) hL hx2 (by decide) dL_law_422 dL_law_423 dL_law_424 dL_law_425 dL_law_426 ?_
      refine lv_i2l (v := _) hz.1 hz.2.1 dL_law_427 rfl ?_
      refine lv_ldc2 (own := RL) (v := 4294967295) hz.1 hz.2.1 hz.2.2.2.1 (hz.2.2.2.2 (.constantLong RL 50 (4294967295)) (List.mem_of_getElem? (i := 6) rfl)) dL_law_428 ?_
      refine lv_land hz.1 hz.2.1 dL_law_431 ?_
      refine lv_lor hz.1 hz.2.1 dL_law_432 ?_
      refine lv_topl (fun v ev => ?_)
      refine lfe (n := 3) hz hX hbl hS hl (by omega) hL hx3 (by decide) dL_law_433 dL_law_434 dL_law_435 dL_law_436 dL_law_437 ?_
      refine wrV (A := lA s_) (As := [.long v, .int (nI n)]) (rest := []) hz (okAm tS sk sv) (c5_type_ok l_ D k a tS sk sv C F E X ((G 9)) ((G 0)) v n hB.2 hB.1 nl nh (by omega)) (cwV 2 hz.2.2.2.2 gL_law_X5_type rfl rfl rfl (by decide +kernel) ⟨Nat.le_of_ble_eq_true rfl, Nat.le_of_ble_eq_true rfl⟩) hK hy (p0.app (p1.app p7)) (D_ix ha [0, 1, 2, 3, 4, 5, 6, 7, 8, 35, 36] rfl (by decide) (by decide)) hS 0 5 rfl rfl rfl rfl hl.1 rfl (Nat.le_of_ble_eq_true rfl) dL_law_438 ⟨Nat.le_of_ble_eq_true rfl, Nat.le_of_ble_eq_true rfl⟩ (fun r u H1 locs hp hP1 hS hfr => ?_)
      obtain rfl : r = nI (X 0 + n) := hp
      have p0 := hP1.left
      have hP1 := hP1.right
      have p1 := hP1.left
      have hP1 := hP1.right
      have p7 := hP1
      have kp : ∀ (g_ : va_W) (jx : List Nat), g_.map (fun q => q.1) = jx.map a → (∀ j ∈ jx, j < 54) → (∀ j ∈ jx, j ∉ ([0, 1, 2, 3, 4, 5, 6, 7, 8, 35, 36] : List Nat)) → va_P D vwCl g_ H → va_P D vwCl g_ H1 := fun g_ jx h1 h2 h3 h4 => keepG (wc := ho a C ++ (bw a 1 k F E ++ (tw a k X ((G 9))))) ha [0, 1, 2, 3, 4, 5, 6, 7, 8, 35, 36] jx rfl h1 (by decide) h2 h3 h4 hfr
      have p2 := kp _ [9, 10, 11, 12, 13, 14, 15, 16] rfl (by decide) (by decide) p2
      have p3 := kp _ [17] rfl (by decide) (by decide) p3
      have p4 := kp _ [18, 19, 20, 21, 22, 23, 24, 25] rfl (by decide) (by decide) p4
      have p5 := kp _ [26, 27, 28, 29, 30, 31, 32, 33] rfl (by decide) (by decide) p5
      have p6 := kp _ [34] rfl (by decide) (by decide) p6
      have p8 := kp _ [37, 38] rfl (by decide) (by decide) p8
      have p9 := kp _ [39, 40, 41, 42, 43, 44, 45, 46, 47, 48, 49, 50, 51, 52] rfl (by decide) (by decide) p9
      have p10 := kp _ [53] rfl (by decide) (by decide) p10
      have pm := keepX (wc := ho a C ++ (bw a 1 k F E ++ (tw a k X ((G 9))))) (g := mw b k I J G) hab [0, 1, 2, 3, 4, 5, 6, 7, 8, 35, 36] [0, 1, 2, 3, 4, 5, 6, 7, 8, 9, 10, 11, 12] rfl rfl (by decide) (by decide) pm hfr
      refine lv_aload_n hz.1 hz.2.1 dL_law_441 rfl (lv_at hl 2 rfl) ?_
      refine lfe (n := 1) hz hX hbl hS hl (by omega) hL hx1 (by decide) dL_law_442 dL_law_443 dL_law_444 dL_law_445 dL_law_446 ?_
      refine lv_i2l (v := _) hz.1 hz.2.1 dL_law_447 rfl ?_
      refine lv_bipush (v := nI 32) hz.1 hz.2.1 dL_law_448 (by decide) ?_
      refine lv_lshl (v := _) hz.1 hz.2.1 dL_law_450 rfl ?_
      refine lfe (n := 2) hz hX hbl hS hl (by omega) hL hx2 (by decide) dL_law_451 dL_law_452 dL_law_453 dL_law_454 dL_law_455 ?_
      refine lv_i2l (v := _) hz.1 hz.2.1 dL_law_456 rfl ?_
      refine lv_ldc2 (own := RL) (v := 4294967295) hz.1 hz.2.1 hz.2.2.2.1 (hz.2.2.2.2 (.constantLong RL 50 (4294967295)) (List.mem_of_getElem? (i := 6) rfl)) dL_law_457 ?_
      refine lv_land hz.1 hz.2.1 dL_law_460 ?_
      refine lv_lor hz.1 hz.2.1 dL_law_461 ?_
      refine lv_topl (fun v2 ev2 => ?_)
      obtain rfl : v = v2 := ev.trans ev2.symm
      refine lfe (n := 3) hz hX hbl hS hl (by omega) hL hx3 (by decide) dL_law_462 dL_law_463 dL_law_464 dL_law_465 dL_law_466 ?_
      refine wrV (A := lA s_) (As := [.long v, .int (nI n)]) (rest := [.int (nI (X 0 + n))]) hz okYT (c6_type_ok l_ D k b I J G v n nl nh hc) (cwV 2 hz.2.2.2.2 gL_law_X6_type rfl rfl rfl (by decide +kernel) ⟨Nat.le_of_ble_eq_true rfl, Nat.le_of_ble_eq_true rfl⟩) hK trivial pm (D_ix hbk [0, 1, 2, 3, 4, 5, 6, 7, 8, 9, 10, 11, 12] rfl (by decide) (by decide)) hS 0 6 rfl rfl rfl rfl hl.1 rfl (Nat.le_of_ble_eq_true rfl) dL_law_467 ⟨Nat.le_of_ble_eq_true rfl, Nat.le_of_ble_eq_true rfl⟩ (fun r u H1 locs hp hP1 hS hfr => ?_)
      obtain rfl : r = nI (I 0 + n) := hp
      have pm := hP1
      have pc_ : CPs D k a C F E Fd Ed Fp Ep Fq Eg K (nset X 0 (X 0 + n)) (sTy ((G 9)) (X 0) v n n) Z S Rr Y Nt Sl Mt Ch Q H1 := CPs.kept ⟨p0, p1, p2, p3, p4, p5, p6, p7, p8, p9, p10⟩ hba hfr
      obtain ⟨p0, p1, p2, p3, p4, p5, p6, p7, p8, p9, p10⟩ := pc_
      refine cmpE (tgt := 1063) hz (by rw [eX]) dL_law_470 (by decide) ?_
      exact hk _ _ ⟨C, F, E, Fd, Ed, Fp, Ep, Fq, Eg, K, nset X 0 (X 0 + n), sTy ((G 9)) (X 0) v n n, Z, S, Rr, Y, Nt, Sl, Mt, Ch, Q, nset I 0 (I 0 + n), J, gset G 9 (sTy (G 9) (I 0) v n n), ⟨hB, hC, hT.type hc, hQ, hM, hU⟩, ⟨p0, p1, p2, p3, p4, p5, p6, p7, p8, p9, p10⟩, pm⟩ hS ls hl

set_option maxHeartbeats 4000000 in
set_option maxRecDepth 100000 in
theorem law_clear {p_ : Program} {l_ : Launch} {e_ : Env} {s_ : State} {m_ : MethodId} {bl_ : List Frame} {me_ : Method} {c_ : Code} {D : va_G} {k : Nat → ClassId} {a b : Nat → Nat} {b0 L : Nat} {xs : Nat → Int32} {tS : Nat} {sk sv : Nat → Nat} {i : Nat} (E0 : LE p_ s_ m_ c_ D k a b b0 L xs tS sk sv) (hi : i + 6 ≤ L) (hk : LK p_ l_ e_ s_ m_ bl_ me_ c_ D k a b b0 i 1063) : LK p_ l_ e_ s_ m_ bl_ me_ c_ D k a b b0 i 475 := by
  obtain ⟨hz, hX, hbl, hK, hy, ha, hbk, hab, hL⟩ := E0
  have hba : ∀ i j, i < 13 → j < 54 → b i ≠ a j := fun i j h1 h2 q => hab j i h2 h1 q.symm
  intro H locs hI hS ls hl
  obtain ⟨C, F, E, Fd, Ed, Fp, Ep, Fq, Eg, K, X, T, Z, S, Rr, Y, Nt, Sl, Mt, Ch, Q, I, J, G, ⟨hB, hC, hT, hQ, hM, hU⟩, ⟨p0, p1, p2, p3, p4, p5, p6, p7, p8, p9, p10⟩, pm⟩ := id hI
  obtain ⟨eX, hI2, rfl, hTb⟩ := hT
  have hT : LT X (G 9) I (G 9) := ⟨eX, hI2, rfl, hTb⟩
  have f0 := hB.1.n2
  have f1 := hB.1.n9
  have f4 := hB.1.pc
  have f5 := hB.1.wc
  refine lv_aload_n hz.1 hz.2.1 dL_law_475 rfl (lv_at hl 1 rfl) ?_
  refine wrV (A := lA s_) (As := []) (rest := []) hz (okAm tS sk sv) (c5_clear l_ D k a tS sk sv C F E X ((G 9)) ((G 0)) hB.2 hB.1 ) (cwV 0 hz.2.2.2.2 gL_law_X5_clear rfl rfl rfl (by decide +kernel) ⟨Nat.le_of_ble_eq_true rfl, Nat.le_of_ble_eq_true rfl⟩) hK hy (p0.app (p1.app p7)) (D_ix ha [0, 1, 2, 3, 4, 5, 6, 7, 8, 35, 36] rfl (by decide) (by decide)) hS 0 5 rfl rfl rfl rfl hl.1 rfl (Nat.le_of_ble_eq_true rfl) dL_law_476 ⟨Nat.le_of_ble_eq_true rfl, Nat.le_of_ble_eq_true rfl⟩ (fun r u H1 locs hp hP1 hS hfr => ?_)
  obtain rfl : r = nI (X 0) := hp
  have p0 := hP1.left
  have hP1 := hP1.right
  have p1 := hP1.left
  have hP1 := hP1.right
  have p7 := hP1
  have kp : ∀ (g_ : va_W) (jx : List Nat), g_.map (fun q => q.1) = jx.map a → (∀ j ∈ jx, j < 54) → (∀ j ∈ jx, j ∉ ([0, 1, 2, 3, 4, 5, 6, 7, 8, 35, 36] : List Nat)) → va_P D vwCl g_ H → va_P D vwCl g_ H1 := fun g_ jx h1 h2 h3 h4 => keepG (wc := ho a C ++ (bw a 1 k F E ++ (tw a k X ((G 9))))) ha [0, 1, 2, 3, 4, 5, 6, 7, 8, 35, 36] jx rfl h1 (by decide) h2 h3 h4 hfr
  have p2 := kp _ [9, 10, 11, 12, 13, 14, 15, 16] rfl (by decide) (by decide) p2
  have p3 := kp _ [17] rfl (by decide) (by decide) p3
  have p4 := kp _ [18, 19, 20, 21, 22, 23, 24, 25] rfl (by decide) (by decide) p4
  have p5 := kp _ [26, 27, 28, 29, 30, 31, 32, 33] rfl (by decide) (by decide) p5
  have p6 := kp _ [34] rfl (by decide) (by decide) p6
  have p8 := kp _ [37, 38] rfl (by decide) (by decide) p8
  have p9 := kp _ [39, 40, 41, 42, 43, 44, 45, 46, 47, 48, 49, 50, 51, 52] rfl (by decide) (by decide) p9
  have p10 := kp _ [53] rfl (by decide) (by decide) p10
  have pm := keepX (wc := ho a C ++ (bw a 1 k F E ++ (tw a k X ((G 9))))) (g := mw b k I J G) hab [0, 1, 2, 3, 4, 5, 6, 7, 8, 35, 36] [0, 1, 2, 3, 4, 5, 6, 7, 8, 9, 10, 11, 12] rfl rfl (by decide) (by decide) pm hfr
  refine lv_aload_n hz.1 hz.2.1 dL_law_479 rfl (lv_at hl 2 rfl) ?_
  refine wrV (A := lA s_) (As := []) (rest := [.int (nI (X 0))]) hz okYT (c6_clear l_ D k b I J G  ) (cwV 0 hz.2.2.2.2 gL_law_X6_clear rfl rfl rfl (by decide +kernel) ⟨Nat.le_of_ble_eq_true rfl, Nat.le_of_ble_eq_true rfl⟩) hK trivial pm (D_ix hbk [0, 1, 2, 3, 4, 5, 6, 7, 8, 9, 10, 11, 12] rfl (by decide) (by decide)) hS 0 6 rfl rfl rfl rfl hl.1 rfl (Nat.le_of_ble_eq_true rfl) dL_law_480 ⟨Nat.le_of_ble_eq_true rfl, Nat.le_of_ble_eq_true rfl⟩ (fun r u H1 locs hp hP1 hS hfr => ?_)
  obtain rfl : r = nI (I 0) := hp
  have pm := hP1
  have pc_ : CPs D k a C F E Fd Ed Fp Ep Fq Eg K (nset X 0 0) ((G 9)) Z S Rr Y Nt Sl Mt Ch Q H1 := CPs.kept ⟨p0, p1, p2, p3, p4, p5, p6, p7, p8, p9, p10⟩ hba hfr
  obtain ⟨p0, p1, p2, p3, p4, p5, p6, p7, p8, p9, p10⟩ := pc_
  refine cmpE (tgt := 1063) hz (by rw [eX]) dL_law_483 (by decide) ?_
  exact hk _ _ ⟨C, F, E, Fd, Ed, Fp, Ep, Fq, Eg, K, nset X 0 0, (G 9), Z, S, Rr, Y, Nt, Sl, Mt, Ch, Q, nset I 0 0, J, G, ⟨hB, hC, hT.clear, hQ, hM, hU⟩, ⟨p0, p1, p2, p3, p4, p5, p6, p7, p8, p9, p10⟩, pm⟩ hS ls hl

set_option maxHeartbeats 4000000 in
set_option maxRecDepth 100000 in
theorem law_read {p_ : Program} {l_ : Launch} {e_ : Env} {s_ : State} {m_ : MethodId} {bl_ : List Frame} {me_ : Method} {c_ : Code} {D : va_G} {k : Nat → ClassId} {a b : Nat → Nat} {b0 L : Nat} {xs : Nat → Int32} {tS : Nat} {sk sv : Nat → Nat} {i : Nat} (E0 : LE p_ s_ m_ c_ D k a b b0 L xs tS sk sv) (hi : i + 6 ≤ L) (hk : LK p_ l_ e_ s_ m_ bl_ me_ c_ D k a b b0 i 1063) : LK p_ l_ e_ s_ m_ bl_ me_ c_ D k a b b0 i 488 := by
  obtain ⟨hz, hX, hbl, hK, hy, ha, hbk, hab, hL⟩ := E0
  have hba : ∀ i j, i < 13 → j < 54 → b i ≠ a j := fun i j h1 h2 q => hab j i h2 h1 q.symm
  intro H locs hI hS ls hl
  obtain ⟨C, F, E, Fd, Ed, Fp, Ep, Fq, Eg, K, X, T, Z, S, Rr, Y, Nt, Sl, Mt, Ch, Q, I, J, G, ⟨hB, hC, hT, hQ, hM, hU⟩, ⟨p0, p1, p2, p3, p4, p5, p6, p7, p8, p9, p10⟩, pm⟩ := id hI
  obtain ⟨eX, hI2, rfl, hTb⟩ := hT
  have hT : LT X (G 9) I (G 9) := ⟨eX, hI2, rfl, hTb⟩
  have f0 := hB.1.n2
  have f1 := hB.1.n9
  have f4 := hB.1.pc
  have f5 := hB.1.wc
  cases hb : (sRd (G 9) (I 0) (G 10)).1
  · refine lv_aload_n hz.1 hz.2.1 dL_law_488 rfl (lv_at hl 1 rfl) ?_
    refine wrV (A := lA s_) (As := []) (rest := []) hz (okAm tS sk sv) (c5_read_bad l_ D k a tS sk sv C F E Fd Ed X ((G 9)) ((G 0)) ((G 10)) hB.2 hB.1 (by rw [eX]; exact hI2) hTb (by rw [eX]; exact hb)) (cwV 0 hz.2.2.2.2 gL_law_X5_read rfl rfl rfl (by decide +kernel) ⟨Nat.le_of_ble_eq_true rfl, Nat.le_of_ble_eq_true rfl⟩) hK hy (p0.app (p1.app (p2.app p7))) (D_ix ha [0, 1, 2, 3, 4, 5, 6, 7, 8, 9, 10, 11, 12, 13, 14, 15, 16, 35, 36] rfl (by decide) (by decide)) hS 0 5 rfl rfl rfl rfl hl.1 rfl (Nat.le_of_ble_eq_true rfl) dL_law_489 ⟨Nat.le_of_ble_eq_true rfl, Nat.le_of_ble_eq_true rfl⟩ (fun r u H1 locs hp hP1 hS hfr => ?_)
    obtain ⟨u1, ⟨u2, u3⟩, ⟨u4, u5⟩⟩ := u
    have hr1 : r = (-10) - nI (sRd (G 9) (X 0) (G 10)).2.1 := hp
    rw [eX] at hr1
    obtain rfl : r = (-10) - nI (sRd (G 9) (I 0) (G 10)).2.1 := hr1
    have p0 := hP1.left
    have hP1 := hP1.right
    have p1 := hP1.left
    have hP1 := hP1.right
    have p2 := hP1.left
    have hP1 := hP1.right
    have p7 := hP1
    have kp : ∀ (g_ : va_W) (jx : List Nat), g_.map (fun q => q.1) = jx.map a → (∀ j ∈ jx, j < 54) → (∀ j ∈ jx, j ∉ ([0, 1, 2, 3, 4, 5, 6, 7, 8, 9, 10, 11, 12, 13, 14, 15, 16, 35, 36] : List Nat)) → va_P D vwCl g_ H → va_P D vwCl g_ H1 := fun g_ jx h1 h2 h3 h4 => keepG (wc := ho a C ++ (bw a 1 k F E ++ (bw a 9 k Fd Ed ++ (tw a k X ((G 9)))))) ha [0, 1, 2, 3, 4, 5, 6, 7, 8, 9, 10, 11, 12, 13, 14, 15, 16, 35, 36] jx rfl h1 (by decide) h2 h3 h4 hfr
    have p3 := kp _ [17] rfl (by decide) (by decide) p3
    have p4 := kp _ [18, 19, 20, 21, 22, 23, 24, 25] rfl (by decide) (by decide) p4
    have p5 := kp _ [26, 27, 28, 29, 30, 31, 32, 33] rfl (by decide) (by decide) p5
    have p6 := kp _ [34] rfl (by decide) (by decide) p6
    have p8 := kp _ [37, 38] rfl (by decide) (by decide) p8
    have p9 := kp _ [39, 40, 41, 42, 43, 44, 45, 46, 47, 48, 49, 50, 51, 52] rfl (by decide) (by decide) p9
    have p10 := kp _ [53] rfl (by decide) (by decide) p10
    have pm := keepX (wc := ho a C ++ (bw a 1 k F E ++ (bw a 9 k Fd Ed ++ (tw a k X ((G 9)))))) (g := mw b k I J G) hab [0, 1, 2, 3, 4, 5, 6, 7, 8, 9, 10, 11, 12, 13, 14, 15, 16, 35, 36] [0, 1, 2, 3, 4, 5, 6, 7, 8, 9, 10, 11, 12] rfl rfl (by decide) (by decide) pm hfr
    refine lv_aload_n hz.1 hz.2.1 dL_law_492 rfl (lv_at hl 2 rfl) ?_
    refine wrV (A := lA s_) (As := []) (rest := [.int ((-10) - nI (sRd (G 9) (I 0) (G 10)).2.1)]) hz okYT (c6_read l_ D k b I J G  hI2 hTb) (cwV 0 hz.2.2.2.2 gL_law_X6_read rfl rfl rfl (by decide +kernel) ⟨Nat.le_of_ble_eq_true rfl, Nat.le_of_ble_eq_true rfl⟩) hK trivial pm (D_ix hbk [0, 1, 2, 3, 4, 5, 6, 7, 8, 9, 10, 11, 12] rfl (by decide) (by decide)) hS 0 6 rfl rfl rfl rfl hl.1 rfl (Nat.le_of_ble_eq_true rfl) dL_law_493 ⟨Nat.le_of_ble_eq_true rfl, Nat.le_of_ble_eq_true rfl⟩ (fun r u H1 locs hp hP1 hS hfr => ?_)
    obtain ⟨v1, v2, v3, v4⟩ := u
    obtain ⟨hp1, hp2, hp3⟩ := hp
    obtain ⟨hr2, hg2⟩ := hp2 hb
    obtain rfl : r = (-10) - nI (sRd (G 9) (I 0) (G 10)).2.1 := hr2
    have hg2 : v2 = G 0 := hg2
    have hp3 : v1 0 = I 0 := hp3
    have pm := hP1
    have pc_ : CPs D k a C F E u2 u3 Fp Ep Fq Eg K ((kX (G 9) (X 0) u1)) ((G 9)) Z S Rr Y Nt Sl Mt Ch Q H1 := CPs.kept ⟨p0, p1, p2, p3, p4, p5, p6, p7, p8, p9, p10⟩ hba hfr
    obtain ⟨p0, p1, p2, p3, p4, p5, p6, p7, p8, p9, p10⟩ := pc_
    refine cmpE (tgt := 1063) hz (rfl) dL_law_496 (by decide) ?_
    exact hk _ _ ⟨C, F, E, u2, u3, Fp, Ep, Fq, Eg, K, (kX (G 9) (X 0) u1), (G 9), Z, S, Rr, Y, Nt, Sl, Mt, Ch, Q, v1, J, (gset (gset (gset G 0 v2) 10 v3) 11 v4), ⟨(show LB v2 F E by rw [hg2]; exact hB), hC, hT.read hp3, hQ, hM, hU⟩, ⟨p0, p1, p2, p3, p4, p5, p6, p7, p8, p9, p10⟩, pm⟩ hS ls hl
  · refine lv_aload_n hz.1 hz.2.1 dL_law_488 rfl (lv_at hl 1 rfl) ?_
    refine wrV (A := lA s_) (As := []) (rest := []) hz (okAm tS sk sv) (c5_read_ok l_ D k a tS sk sv C F E Fd Ed X ((G 9)) ((G 0)) ((G 10)) hB.2 hB.1 (by rw [eX]; exact hI2) hTb (by rw [eX]; exact hb)) (cwV 0 hz.2.2.2.2 gL_law_X5_read rfl rfl rfl (by decide +kernel) ⟨Nat.le_of_ble_eq_true rfl, Nat.le_of_ble_eq_true rfl⟩) hK hy (p0.app (p1.app (p2.app p7))) (D_ix ha [0, 1, 2, 3, 4, 5, 6, 7, 8, 9, 10, 11, 12, 13, 14, 15, 16, 35, 36] rfl (by decide) (by decide)) hS 0 5 rfl rfl rfl rfl hl.1 rfl (Nat.le_of_ble_eq_true rfl) dL_law_489 ⟨Nat.le_of_ble_eq_true rfl, Nat.le_of_ble_eq_true rfl⟩ (fun r u H1 locs hp hP1 hS hfr => ?_)
    obtain ⟨u1, ⟨u2, u3⟩, ⟨u4, u5⟩⟩ := u
    obtain ⟨hr1, hw1, hrb1⟩ := hp
    rw [eX] at hr1 hw1 hrb1
    obtain rfl : r = nI (sRd (G 9) (I 0) (G 10)).2.1 := hr1
    have p0 := hP1.left
    have hP1 := hP1.right
    have p1 := hP1.left
    have hP1 := hP1.right
    have p2 := hP1.left
    have hP1 := hP1.right
    have p7 := hP1
    have kp : ∀ (g_ : va_W) (jx : List Nat), g_.map (fun q => q.1) = jx.map a → (∀ j ∈ jx, j < 54) → (∀ j ∈ jx, j ∉ ([0, 1, 2, 3, 4, 5, 6, 7, 8, 9, 10, 11, 12, 13, 14, 15, 16, 35, 36] : List Nat)) → va_P D vwCl g_ H → va_P D vwCl g_ H1 := fun g_ jx h1 h2 h3 h4 => keepG (wc := ho a C ++ (bw a 1 k F E ++ (bw a 9 k Fd Ed ++ (tw a k X ((G 9)))))) ha [0, 1, 2, 3, 4, 5, 6, 7, 8, 9, 10, 11, 12, 13, 14, 15, 16, 35, 36] jx rfl h1 (by decide) h2 h3 h4 hfr
    have p3 := kp _ [17] rfl (by decide) (by decide) p3
    have p4 := kp _ [18, 19, 20, 21, 22, 23, 24, 25] rfl (by decide) (by decide) p4
    have p5 := kp _ [26, 27, 28, 29, 30, 31, 32, 33] rfl (by decide) (by decide) p5
    have p6 := kp _ [34] rfl (by decide) (by decide) p6
    have p8 := kp _ [37, 38] rfl (by decide) (by decide) p8
    have p9 := kp _ [39, 40, 41, 42, 43, 44, 45, 46, 47, 48, 49, 50, 51, 52] rfl (by decide) (by decide) p9
    have p10 := kp _ [53] rfl (by decide) (by decide) p10
    have pm := keepX (wc := ho a C ++ (bw a 1 k F E ++ (bw a 9 k Fd Ed ++ (tw a k X ((G 9)))))) (g := mw b k I J G) hab [0, 1, 2, 3, 4, 5, 6, 7, 8, 9, 10, 11, 12, 13, 14, 15, 16, 35, 36] [0, 1, 2, 3, 4, 5, 6, 7, 8, 9, 10, 11, 12] rfl rfl (by decide) (by decide) pm hfr
    refine lv_aload_n hz.1 hz.2.1 dL_law_492 rfl (lv_at hl 2 rfl) ?_
    refine wrV (A := lA s_) (As := []) (rest := [.int (nI ((sRd (G 9) (I 0) (G 10)).2.1))]) hz okYT (c6_read l_ D k b I J G  hI2 hTb) (cwV 0 hz.2.2.2.2 gL_law_X6_read rfl rfl rfl (by decide +kernel) ⟨Nat.le_of_ble_eq_true rfl, Nat.le_of_ble_eq_true rfl⟩) hK trivial pm (D_ix hbk [0, 1, 2, 3, 4, 5, 6, 7, 8, 9, 10, 11, 12] rfl (by decide) (by decide)) hS 0 6 rfl rfl rfl rfl hl.1 rfl (Nat.le_of_ble_eq_true rfl) dL_law_493 ⟨Nat.le_of_ble_eq_true rfl, Nat.le_of_ble_eq_true rfl⟩ (fun r u H1 locs hp hP1 hS hfr => ?_)
    obtain ⟨v1, v2, v3, v4⟩ := u
    obtain ⟨hp1, hp2, hp3⟩ := hp
    obtain ⟨hr2, hg2⟩ := hp1 hb
    obtain rfl : r = nI (sRd (G 9) (I 0) (G 10)).2.1 := hr2
    have hg2 : v2 = cget (G 0) (sRd (G 9) (I 0) (G 10)).2.2 0 57 := hg2
    have hp3 : v1 0 = I 0 := hp3
    have pm := hP1
    have pc_ : CPs D k a C u4 u5 u2 u3 Fp Ep Fq Eg K ((kX (G 9) (X 0) u1)) ((G 9)) Z S Rr Y Nt Sl Mt Ch Q H1 := CPs.kept ⟨p0, p1, p2, p3, p4, p5, p6, p7, p8, p9, p10⟩ hba hfr
    obtain ⟨p0, p1, p2, p3, p4, p5, p6, p7, p8, p9, p10⟩ := pc_
    refine cmpE (tgt := 1063) hz (rfl) dL_law_496 (by decide) ?_
    exact hk _ _ ⟨C, u4, u5, u2, u3, Fp, Ep, Fq, Eg, K, (kX (G 9) (X 0) u1), (G 9), Z, S, Rr, Y, Nt, Sl, Mt, Ch, Q, v1, J, (gset (gset (gset G 0 v2) 10 v3) 11 v4), ⟨(show LB v2 u4 u5 by rw [hg2]; exact ⟨hw1.ext (fun j hj => by rw [cget_in hj, Nat.zero_add]), hrb1.ext hw1 (fun j hj => by rw [cget_in hj, Nat.zero_add])⟩), hC, hT.read hp3, hQ, hM, hU⟩, ⟨p0, p1, p2, p3, p4, p5, p6, p7, p8, p9, p10⟩, pm⟩ hS ls hl
