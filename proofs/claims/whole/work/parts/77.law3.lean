set_option maxHeartbeats 4000000 in
set_option maxRecDepth 100000 in
theorem law_sounds {p_ : Program} {l_ : Launch} {e_ : Env} {s_ : State} {m_ : MethodId} {bl_ : List Frame} {me_ : Method} {c_ : Code} {D : va_G} {k : Nat → ClassId} {a b : Nat → Nat} {b0 L : Nat} {xs : Nat → Int32} {tS : Nat} {sk sv : Nat → Nat} {i : Nat} (E0 : LE p_ s_ m_ c_ D k a b b0 L xs tS sk sv) (hi : i + 6 ≤ L) (hk : LK p_ l_ e_ s_ m_ bl_ me_ c_ D k a b b0 i 1063) : LK p_ l_ e_ s_ m_ bl_ me_ c_ D k a b b0 i 501 := by
  obtain ⟨hz, hX, hbl, hK, hy, ha, hbk, hab, hL⟩ := E0
  have hba : ∀ i j, i < 13 → j < 54 → b i ≠ a j := fun i j h1 h2 q => hab j i h2 h1 q.symm
  intro H locs hI hS ls hl
  obtain ⟨C, F, E, Fd, Ed, Fp, Ep, Fq, Eg, K, X, T, Z, S, Rr, Y, Nt, Sl, Mt, Ch, Q, I, J, G, ⟨hB, hC, hT, hQ, hM, hU⟩, ⟨p0, p1, p2, p3, p4, p5, p6, p7, p8, p9, p10⟩, pm⟩ := id hI
  obtain ⟨eX, hI2, rfl, hTb⟩ := hT
  have hT : LT X (G 9) I (G 9) := ⟨eX, hI2, rfl, hTb⟩
  have f0 := hB.1.n2
  have f1 := hB.1.n9
  have f4 := hB.1.pc
  have f5 := hB.1.wc
  obtain ⟨x1, hx1⟩ : ∃ z, xs (i + 1) = z := ⟨_, rfl⟩
  obtain ⟨x2, hx2⟩ : ∃ z, xs (i + 2) = z := ⟨_, rfl⟩
  obtain ⟨x3, hx3⟩ : ∃ z, xs (i + 3) = z := ⟨_, rfl⟩
  cases hb : (wIn x1 0 (G 0 0 - 1 - 1) && wIn x2 1 3 && wIn x3 0 1)
  · refine lv_aload_n hz.1 hz.2.1 dL_law_501 rfl (lv_at hl 1 rfl) ?_
    refine lfe (n := 1) hz hX hbl hS hl (by omega) hL hx1 (by decide) dL_law_502 dL_law_503 dL_law_504 dL_law_505 dL_law_506 ?_
    refine lfe (n := 2) hz hX hbl hS hl (by omega) hL hx2 (by decide) dL_law_507 dL_law_508 dL_law_509 dL_law_510 dL_law_511 ?_
    refine lfe (n := 3) hz hX hbl hS hl (by omega) hL hx3 (by decide) dL_law_512 dL_law_513 dL_law_514 dL_law_515 dL_law_516 ?_
    refine wrV (A := lA s_) (As := [.int x1, .int x2, .int x3]) (rest := []) hz (okAm tS sk sv) (c5_sounds_bad l_ D k a tS sk sv C F E ((G 0)) x1 x2 x3 hB.2 hB.1 hb) (cwV 3 hz.2.2.2.2 gL_law_X5_sounds rfl rfl rfl (by decide +kernel) ⟨Nat.le_of_ble_eq_true rfl, Nat.le_of_ble_eq_true rfl⟩) hK hy (p0.app p1) (D_ix ha [0, 1, 2, 3, 4, 5, 6, 7, 8] rfl (by decide) (by decide)) hS 0 5 rfl rfl rfl rfl hl.1 rfl (Nat.le_of_ble_eq_true rfl) dL_law_517 ⟨Nat.le_of_ble_eq_true rfl, Nat.le_of_ble_eq_true rfl⟩ (fun r u H1 locs hp hP1 hS hfr => ?_)
    obtain rfl : r = -2 := hp
    have p0 := hP1.left
    have hP1 := hP1.right
    have p1 := hP1
    have kp : ∀ (g_ : va_W) (jx : List Nat), g_.map (fun q => q.1) = jx.map a → (∀ j ∈ jx, j < 54) → (∀ j ∈ jx, j ∉ ([0, 1, 2, 3, 4, 5, 6, 7, 8] : List Nat)) → va_P D vwCl g_ H → va_P D vwCl g_ H1 := fun g_ jx h1 h2 h3 h4 => keepG (wc := ho a C ++ (bw a 1 k F E)) ha [0, 1, 2, 3, 4, 5, 6, 7, 8] jx rfl h1 (by decide) h2 h3 h4 hfr
    have p2 := kp _ [9, 10, 11, 12, 13, 14, 15, 16] rfl (by decide) (by decide) p2
    have p3 := kp _ [17] rfl (by decide) (by decide) p3
    have p4 := kp _ [18, 19, 20, 21, 22, 23, 24, 25] rfl (by decide) (by decide) p4
    have p5 := kp _ [26, 27, 28, 29, 30, 31, 32, 33] rfl (by decide) (by decide) p5
    have p6 := kp _ [34] rfl (by decide) (by decide) p6
    have p7 := kp _ [35, 36] rfl (by decide) (by decide) p7
    have p8 := kp _ [37, 38] rfl (by decide) (by decide) p8
    have p9 := kp _ [39, 40, 41, 42, 43, 44, 45, 46, 47, 48, 49, 50, 51, 52] rfl (by decide) (by decide) p9
    have p10 := kp _ [53] rfl (by decide) (by decide) p10
    have pm := keepX (wc := ho a C ++ (bw a 1 k F E)) (g := mw b k I J G) hab [0, 1, 2, 3, 4, 5, 6, 7, 8] [0, 1, 2, 3, 4, 5, 6, 7, 8, 9, 10, 11, 12] rfl rfl (by decide) (by decide) pm hfr
    refine lv_aload_n hz.1 hz.2.1 dL_law_520 rfl (lv_at hl 2 rfl) ?_
    refine lfe (n := 1) hz hX hbl hS hl (by omega) hL hx1 (by decide) dL_law_521 dL_law_522 dL_law_523 dL_law_524 dL_law_525 ?_
    refine lfe (n := 2) hz hX hbl hS hl (by omega) hL hx2 (by decide) dL_law_526 dL_law_527 dL_law_528 dL_law_529 dL_law_530 ?_
    refine lfe (n := 3) hz hX hbl hS hl (by omega) hL hx3 (by decide) dL_law_531 dL_law_532 dL_law_533 dL_law_534 dL_law_535 ?_
    refine wrV (A := lA s_) (As := [.int x1, .int x2, .int x3]) (rest := [.int (-2)]) hz okYT (c6_sounds_bad l_ D k b I J G x1 x2 x3 hB.1 hb) (cwV 3 hz.2.2.2.2 gL_law_X6_sounds rfl rfl rfl (by decide +kernel) ⟨Nat.le_of_ble_eq_true rfl, Nat.le_of_ble_eq_true rfl⟩) hK trivial pm (D_ix hbk [0, 1, 2, 3, 4, 5, 6, 7, 8, 9, 10, 11, 12] rfl (by decide) (by decide)) hS 0 6 rfl rfl rfl rfl hl.1 rfl (Nat.le_of_ble_eq_true rfl) dL_law_536 ⟨Nat.le_of_ble_eq_true rfl, Nat.le_of_ble_eq_true rfl⟩ (fun r u H1 locs hp hP1 hS hfr => ?_)
    obtain rfl : r = -2 := hp
    have pm := hP1
    have pc_ : CPs D k a (nset C 0 (C 0 + 1)) F E Fd Ed Fp Ep Fq Eg K X ((G 9)) Z S Rr Y Nt Sl Mt Ch Q H1 := CPs.kept ⟨p0, p1, p2, p3, p4, p5, p6, p7, p8, p9, p10⟩ hba hfr
    obtain ⟨p0, p1, p2, p3, p4, p5, p6, p7, p8, p9, p10⟩ := pc_
    refine cmpE (tgt := 1063) hz (rfl) dL_law_539 (by decide) ?_
    exact hk _ _ ⟨nset C 0 (C 0 + 1), F, E, Fd, Ed, Fp, Ep, Fq, Eg, K, X, (G 9), Z, S, Rr, Y, Nt, Sl, Mt, Ch, Q, I, J, gset G 3 (sRef (G 3) 0), ⟨hB, hC.s0, hT, hQ, hM, hU⟩, ⟨p0, p1, p2, p3, p4, p5, p6, p7, p8, p9, p10⟩, pm⟩ hS ls hl
  · simp only [Bool.and_eq_true] at hb
    obtain ⟨⟨hb1, hb2⟩, hb3⟩ := hb
    obtain ⟨w, ⟨wl, wh⟩, rfl⟩ := wIn_t (by omega) (by omega) hb1
    obtain ⟨s, ⟨sl, sh⟩, rfl⟩ := wIn_t (by omega) (by omega) hb2
    obtain ⟨wh, ⟨whl, whh⟩, rfl⟩ := wIn_t (by omega) (by omega) hb3
    refine lv_aload_n hz.1 hz.2.1 dL_law_501 rfl (lv_at hl 1 rfl) ?_
    refine lfe (n := 1) hz hX hbl hS hl (by omega) hL hx1 (by decide) dL_law_502 dL_law_503 dL_law_504 dL_law_505 dL_law_506 ?_
    refine lfe (n := 2) hz hX hbl hS hl (by omega) hL hx2 (by decide) dL_law_507 dL_law_508 dL_law_509 dL_law_510 dL_law_511 ?_
    refine lfe (n := 3) hz hX hbl hS hl (by omega) hL hx3 (by decide) dL_law_512 dL_law_513 dL_law_514 dL_law_515 dL_law_516 ?_
    refine rdV (A := lA s_) (As := [.int (nI w), .int (nI s), .int (nI wh)]) (rest := []) hz (okAm tS sk sv) (c5_sounds_ok l_ D k a tS sk sv C F E ((G 0)) w s wh hB.2 hB.1 (by omega) sl sh whh) (cwV 3 hz.2.2.2.2 gL_law_X5_sounds rfl rfl rfl (by decide +kernel) ⟨Nat.le_of_ble_eq_true rfl, Nat.le_of_ble_eq_true rfl⟩) hK hy (p0.app p1) (D_ix ha [0, 1, 2, 3, 4, 5, 6, 7, 8] rfl (by decide) (by decide)) hS 0 5 rfl rfl rfl rfl hl.1 rfl (Nat.le_of_ble_eq_true rfl) dL_law_517 ⟨Nat.le_of_ble_eq_true rfl, Nat.le_of_ble_eq_true rfl⟩ ?_
    refine lv_aload_n hz.1 hz.2.1 dL_law_520 rfl (lv_at hl 2 rfl) ?_
    refine lfe (n := 1) hz hX hbl hS hl (by omega) hL hx1 (by decide) dL_law_521 dL_law_522 dL_law_523 dL_law_524 dL_law_525 ?_
    refine lfe (n := 2) hz hX hbl hS hl (by omega) hL hx2 (by decide) dL_law_526 dL_law_527 dL_law_528 dL_law_529 dL_law_530 ?_
    refine lfe (n := 3) hz hX hbl hS hl (by omega) hL hx3 (by decide) dL_law_531 dL_law_532 dL_law_533 dL_law_534 dL_law_535 ?_
    refine rdV (A := lA s_) (As := [.int (nI w), .int (nI s), .int (nI wh)]) (rest := [.int (nI (if wh = 0 then sLoud ((G 0) (3 + w)) s else sNote (G 0) w))]) hz okYT (c6_sounds_ok l_ D k b I J G w s wh hB.1 (by omega) sl sh whh) (cwV 3 hz.2.2.2.2 gL_law_X6_sounds rfl rfl rfl (by decide +kernel) ⟨Nat.le_of_ble_eq_true rfl, Nat.le_of_ble_eq_true rfl⟩) hK trivial pm (D_ix hbk [0, 1, 2, 3, 4, 5, 6, 7, 8, 9, 10, 11, 12] rfl (by decide) (by decide)) hS 0 6 rfl rfl rfl rfl hl.1 rfl (Nat.le_of_ble_eq_true rfl) dL_law_536 ⟨Nat.le_of_ble_eq_true rfl, Nat.le_of_ble_eq_true rfl⟩ ?_
    refine cmpE (tgt := 1063) hz (rfl) dL_law_539 (by decide) ?_
    exact hk H locs hI hS ls hl

set_option maxHeartbeats 4000000 in
set_option maxRecDepth 100000 in
theorem law_away {p_ : Program} {l_ : Launch} {e_ : Env} {s_ : State} {m_ : MethodId} {bl_ : List Frame} {me_ : Method} {c_ : Code} {D : va_G} {k : Nat → ClassId} {a b : Nat → Nat} {b0 L : Nat} {xs : Nat → Int32} {tS : Nat} {sk sv : Nat → Nat} {i : Nat} (E0 : LE p_ s_ m_ c_ D k a b b0 L xs tS sk sv) (hi : i + 6 ≤ L) (hk : LK p_ l_ e_ s_ m_ bl_ me_ c_ D k a b b0 i 1063) : LK p_ l_ e_ s_ m_ bl_ me_ c_ D k a b b0 i 544 := by
  obtain ⟨hz, hX, hbl, hK, hy, ha, hbk, hab, hL⟩ := E0
  have hba : ∀ i j, i < 13 → j < 54 → b i ≠ a j := fun i j h1 h2 q => hab j i h2 h1 q.symm
  intro H locs hI hS ls hl
  obtain ⟨C, F, E, Fd, Ed, Fp, Ep, Fq, Eg, K, X, T, Z, S, Rr, Y, Nt, Sl, Mt, Ch, Q, I, J, G, ⟨hB, hC, hT, hQ, hM, hU⟩, ⟨p0, p1, p2, p3, p4, p5, p6, p7, p8, p9, p10⟩, pm⟩ := id hI
  obtain ⟨eX, hI2, rfl, hTb⟩ := hT
  have hT : LT X (G 9) I (G 9) := ⟨eX, hI2, rfl, hTb⟩
  have f0 := hB.1.n2
  have f1 := hB.1.n9
  have f4 := hB.1.pc
  have f5 := hB.1.wc
  obtain ⟨x1, hx1⟩ : ∃ z, xs (i + 1) = z := ⟨_, rfl⟩
  obtain ⟨x2, hx2⟩ : ∃ z, xs (i + 2) = z := ⟨_, rfl⟩
  cases hb : (wIn x1 0 (G 0 0 - 1) && wIn x2 0 (G 0 0 - 1 - 1))
  · refine lv_aload_n hz.1 hz.2.1 dL_law_544 rfl (lv_at hl 1 rfl) ?_
    refine lfe (n := 1) hz hX hbl hS hl (by omega) hL hx1 (by decide) dL_law_545 dL_law_546 dL_law_547 dL_law_548 dL_law_549 ?_
    refine lfe (n := 2) hz hX hbl hS hl (by omega) hL hx2 (by decide) dL_law_550 dL_law_551 dL_law_552 dL_law_553 dL_law_554 ?_
    refine wrV (A := lA s_) (As := [.int x1, .int x2]) (rest := []) hz (okAm tS sk sv) (c5_away_bad l_ D k a tS sk sv C F E ((G 0)) x1 x2 hB.2 hB.1 hb) (cwV 2 hz.2.2.2.2 gL_law_X5_away rfl rfl rfl (by decide +kernel) ⟨Nat.le_of_ble_eq_true rfl, Nat.le_of_ble_eq_true rfl⟩) hK hy (p0.app p1) (D_ix ha [0, 1, 2, 3, 4, 5, 6, 7, 8] rfl (by decide) (by decide)) hS 0 5 rfl rfl rfl rfl hl.1 rfl (Nat.le_of_ble_eq_true rfl) dL_law_555 ⟨Nat.le_of_ble_eq_true rfl, Nat.le_of_ble_eq_true rfl⟩ (fun r u H1 locs hp hP1 hS hfr => ?_)
    obtain rfl : r = -2 := hp
    have p0 := hP1.left
    have hP1 := hP1.right
    have p1 := hP1
    have kp : ∀ (g_ : va_W) (jx : List Nat), g_.map (fun q => q.1) = jx.map a → (∀ j ∈ jx, j < 54) → (∀ j ∈ jx, j ∉ ([0, 1, 2, 3, 4, 5, 6, 7, 8] : List Nat)) → va_P D vwCl g_ H → va_P D vwCl g_ H1 := fun g_ jx h1 h2 h3 h4 => keepG (wc := ho a C ++ (bw a 1 k F E)) ha [0, 1, 2, 3, 4, 5, 6, 7, 8] jx rfl h1 (by decide) h2 h3 h4 hfr
    have p2 := kp _ [9, 10, 11, 12, 13, 14, 15, 16] rfl (by decide) (by decide) p2
    have p3 := kp _ [17] rfl (by decide) (by decide) p3
    have p4 := kp _ [18, 19, 20, 21, 22, 23, 24, 25] rfl (by decide) (by decide) p4
    have p5 := kp _ [26, 27, 28, 29, 30, 31, 32, 33] rfl (by decide) (by decide) p5
    have p6 := kp _ [34] rfl (by decide) (by decide) p6
    have p7 := kp _ [35, 36] rfl (by decide) (by decide) p7
    have p8 := kp _ [37, 38] rfl (by decide) (by decide) p8
    have p9 := kp _ [39, 40, 41, 42, 43, 44, 45, 46, 47, 48, 49, 50, 51, 52] rfl (by decide) (by decide) p9
    have p10 := kp _ [53] rfl (by decide) (by decide) p10
    have pm := keepX (wc := ho a C ++ (bw a 1 k F E)) (g := mw b k I J G) hab [0, 1, 2, 3, 4, 5, 6, 7, 8] [0, 1, 2, 3, 4, 5, 6, 7, 8, 9, 10, 11, 12] rfl rfl (by decide) (by decide) pm hfr
    refine lv_aload_n hz.1 hz.2.1 dL_law_558 rfl (lv_at hl 2 rfl) ?_
    refine lfe (n := 1) hz hX hbl hS hl (by omega) hL hx1 (by decide) dL_law_559 dL_law_560 dL_law_561 dL_law_562 dL_law_563 ?_
    refine lfe (n := 2) hz hX hbl hS hl (by omega) hL hx2 (by decide) dL_law_564 dL_law_565 dL_law_566 dL_law_567 dL_law_568 ?_
    refine wrV (A := lA s_) (As := [.int x1, .int x2]) (rest := [.int (-2)]) hz okYT (c6_away_bad l_ D k b I J G x1 x2 hB.1 hb) (cwV 2 hz.2.2.2.2 gL_law_X6_away rfl rfl rfl (by decide +kernel) ⟨Nat.le_of_ble_eq_true rfl, Nat.le_of_ble_eq_true rfl⟩) hK trivial pm (D_ix hbk [0, 1, 2, 3, 4, 5, 6, 7, 8, 9, 10, 11, 12] rfl (by decide) (by decide)) hS 0 6 rfl rfl rfl rfl hl.1 rfl (Nat.le_of_ble_eq_true rfl) dL_law_569 ⟨Nat.le_of_ble_eq_true rfl, Nat.le_of_ble_eq_true rfl⟩ (fun r u H1 locs hp hP1 hS hfr => ?_)
    obtain rfl : r = -2 := hp
    have pm := hP1
    have pc_ : CPs D k a (nset C 0 (C 0 + 1)) F E Fd Ed Fp Ep Fq Eg K X ((G 9)) Z S Rr Y Nt Sl Mt Ch Q H1 := CPs.kept ⟨p0, p1, p2, p3, p4, p5, p6, p7, p8, p9, p10⟩ hba hfr
    obtain ⟨p0, p1, p2, p3, p4, p5, p6, p7, p8, p9, p10⟩ := pc_
    refine cmpE (tgt := 1063) hz (rfl) dL_law_572 (by decide) ?_
    exact hk _ _ ⟨nset C 0 (C 0 + 1), F, E, Fd, Ed, Fp, Ep, Fq, Eg, K, X, (G 9), Z, S, Rr, Y, Nt, Sl, Mt, Ch, Q, I, J, gset G 3 (sRef (G 3) 0), ⟨hB, hC.s0, hT, hQ, hM, hU⟩, ⟨p0, p1, p2, p3, p4, p5, p6, p7, p8, p9, p10⟩, pm⟩ hS ls hl
  · simp only [Bool.and_eq_true] at hb
    obtain ⟨hb1, hb2⟩ := hb
    obtain ⟨p, ⟨pl, ph⟩, rfl⟩ := wIn_t (by omega) (by omega) hb1
    obtain ⟨w, ⟨wl, wh⟩, rfl⟩ := wIn_t (by omega) (by omega) hb2
    refine lv_aload_n hz.1 hz.2.1 dL_law_544 rfl (lv_at hl 1 rfl) ?_
    refine lfe (n := 1) hz hX hbl hS hl (by omega) hL hx1 (by decide) dL_law_545 dL_law_546 dL_law_547 dL_law_548 dL_law_549 ?_
    refine lfe (n := 2) hz hX hbl hS hl (by omega) hL hx2 (by decide) dL_law_550 dL_law_551 dL_law_552 dL_law_553 dL_law_554 ?_
    refine rdV (A := lA s_) (As := [.int (nI p), .int (nI w)]) (rest := []) hz (okAm tS sk sv) (c5_away_ok l_ D k a tS sk sv C F E ((G 0)) p w hB.2 hB.1 (by omega) (by omega)) (cwV 2 hz.2.2.2.2 gL_law_X5_away rfl rfl rfl (by decide +kernel) ⟨Nat.le_of_ble_eq_true rfl, Nat.le_of_ble_eq_true rfl⟩) hK hy (p0.app p1) (D_ix ha [0, 1, 2, 3, 4, 5, 6, 7, 8] rfl (by decide) (by decide)) hS 0 5 rfl rfl rfl rfl hl.1 rfl (Nat.le_of_ble_eq_true rfl) dL_law_555 ⟨Nat.le_of_ble_eq_true rfl, Nat.le_of_ble_eq_true rfl⟩ ?_
    refine lv_aload_n hz.1 hz.2.1 dL_law_558 rfl (lv_at hl 2 rfl) ?_
    refine lfe (n := 1) hz hX hbl hS hl (by omega) hL hx1 (by decide) dL_law_559 dL_law_560 dL_law_561 dL_law_562 dL_law_563 ?_
    refine lfe (n := 2) hz hX hbl hS hl (by omega) hL hx2 (by decide) dL_law_564 dL_law_565 dL_law_566 dL_law_567 dL_law_568 ?_
    refine rdV (A := lA s_) (As := [.int (nI p), .int (nI w)]) (rest := [.int (nI (sFar p w))]) hz okYT (c6_away_ok l_ D k b I J G p w hB.1 (by omega) (by omega)) (cwV 2 hz.2.2.2.2 gL_law_X6_away rfl rfl rfl (by decide +kernel) ⟨Nat.le_of_ble_eq_true rfl, Nat.le_of_ble_eq_true rfl⟩) hK trivial pm (D_ix hbk [0, 1, 2, 3, 4, 5, 6, 7, 8, 9, 10, 11, 12] rfl (by decide) (by decide)) hS 0 6 rfl rfl rfl rfl hl.1 rfl (Nat.le_of_ble_eq_true rfl) dL_law_569 ⟨Nat.le_of_ble_eq_true rfl, Nat.le_of_ble_eq_true rfl⟩ ?_
    refine cmpE (tgt := 1063) hz (rfl) dL_law_572 (by decide) ?_
    exact hk H locs hI hS ls hl

set_option maxHeartbeats 4000000 in
set_option maxRecDepth 100000 in
theorem law_heard {p_ : Program} {l_ : Launch} {e_ : Env} {s_ : State} {m_ : MethodId} {bl_ : List Frame} {me_ : Method} {c_ : Code} {D : va_G} {k : Nat → ClassId} {a b : Nat → Nat} {b0 L : Nat} {xs : Nat → Int32} {tS : Nat} {sk sv : Nat → Nat} {i : Nat} (E0 : LE p_ s_ m_ c_ D k a b b0 L xs tS sk sv) (hi : i + 6 ≤ L) (hk : LK p_ l_ e_ s_ m_ bl_ me_ c_ D k a b b0 i 1063) : LK p_ l_ e_ s_ m_ bl_ me_ c_ D k a b b0 i 577 := by
  obtain ⟨hz, hX, hbl, hK, hy, ha, hbk, hab, hL⟩ := E0
  have hba : ∀ i j, i < 13 → j < 54 → b i ≠ a j := fun i j h1 h2 q => hab j i h2 h1 q.symm
  intro H locs hI hS ls hl
  obtain ⟨C, F, E, Fd, Ed, Fp, Ep, Fq, Eg, K, X, T, Z, S, Rr, Y, Nt, Sl, Mt, Ch, Q, I, J, G, ⟨hB, hC, hT, hQ, hM, hU⟩, ⟨p0, p1, p2, p3, p4, p5, p6, p7, p8, p9, p10⟩, pm⟩ := id hI
  obtain ⟨eX, hI2, rfl, hTb⟩ := hT
  have hT : LT X (G 9) I (G 9) := ⟨eX, hI2, rfl, hTb⟩
  have f0 := hB.1.n2
  have f1 := hB.1.n9
  have f4 := hB.1.pc
  have f5 := hB.1.wc
  obtain ⟨x1, hx1⟩ : ∃ z, xs (i + 1) = z := ⟨_, rfl⟩
  obtain ⟨x2, hx2⟩ : ∃ z, xs (i + 2) = z := ⟨_, rfl⟩
  cases hb : (wIn x1 0 (G 0 0 - 1) && wIn x2 0 59)
  · refine lv_aload_n hz.1 hz.2.1 dL_law_577 rfl (lv_at hl 1 rfl) ?_
    refine lfe (n := 1) hz hX hbl hS hl (by omega) hL hx1 (by decide) dL_law_578 dL_law_579 dL_law_580 dL_law_581 dL_law_582 ?_
    refine lfe (n := 2) hz hX hbl hS hl (by omega) hL hx2 (by decide) dL_law_583 dL_law_584 dL_law_585 dL_law_586 dL_law_587 ?_
    refine wrV (A := lA s_) (As := [.int x1, .int x2]) (rest := []) hz (okAm tS sk sv) (c5_heard_bad l_ D k a tS sk sv C F E ((G 0)) x1 x2 hB.2 hB.1 hb) (cwV 2 hz.2.2.2.2 gL_law_X5_heard rfl rfl rfl (by decide +kernel) ⟨Nat.le_of_ble_eq_true rfl, Nat.le_of_ble_eq_true rfl⟩) hK hy (p0.app p1) (D_ix ha [0, 1, 2, 3, 4, 5, 6, 7, 8] rfl (by decide) (by decide)) hS 0 5 rfl rfl rfl rfl hl.1 rfl (Nat.le_of_ble_eq_true rfl) dL_law_588 ⟨Nat.le_of_ble_eq_true rfl, Nat.le_of_ble_eq_true rfl⟩ (fun r u H1 locs hp hP1 hS hfr => ?_)
    obtain rfl : r = -2 := hp
    have p0 := hP1.left
    have hP1 := hP1.right
    have p1 := hP1
    have kp : ∀ (g_ : va_W) (jx : List Nat), g_.map (fun q => q.1) = jx.map a → (∀ j ∈ jx, j < 54) → (∀ j ∈ jx, j ∉ ([0, 1, 2, 3, 4, 5, 6, 7, 8] : List Nat)) → va_P D vwCl g_ H → va_P D vwCl g_ H1 := fun g_ jx h1 h2 h3 h4 => keepG (wc := ho a C ++ (bw a 1 k F E)) ha [0, 1, 2, 3, 4, 5, 6, 7, 8] jx rfl h1 (by decide) h2 h3 h4 hfr
    have p2 := kp _ [9, 10, 11, 12, 13, 14, 15, 16] rfl (by decide) (by decide) p2
    have p3 := kp _ [17] rfl (by decide) (by decide) p3
    have p4 := kp _ [18, 19, 20, 21, 22, 23, 24, 25] rfl (by decide) (by decide) p4
    have p5 := kp _ [26, 27, 28, 29, 30, 31, 32, 33] rfl (by decide) (by decide) p5
    have p6 := kp _ [34] rfl (by decide) (by decide) p6
    have p7 := kp _ [35, 36] rfl (by decide) (by decide) p7
    have p8 := kp _ [37, 38] rfl (by decide) (by decide) p8
    have p9 := kp _ [39, 40, 41, 42, 43, 44, 45, 46, 47, 48, 49, 50, 51, 52] rfl (by decide) (by decide) p9
    have p10 := kp _ [53] rfl (by decide) (by decide) p10
    have pm := keepX (wc := ho a C ++ (bw a 1 k F E)) (g := mw b k I J G) hab [0, 1, 2, 3, 4, 5, 6, 7, 8] [0, 1, 2, 3, 4, 5, 6, 7, 8, 9, 10, 11, 12] rfl rfl (by decide) (by decide) pm hfr
    refine lv_aload_n hz.1 hz.2.1 dL_law_591 rfl (lv_at hl 2 rfl) ?_
    refine lfe (n := 1) hz hX hbl hS hl (by omega) hL hx1 (by decide) dL_law_592 dL_law_593 dL_law_594 dL_law_595 dL_law_596 ?_
    refine lfe (n := 2) hz hX hbl hS hl (by omega) hL hx2 (by decide) dL_law_597 dL_law_598 dL_law_599 dL_law_600 dL_law_601 ?_
    refine wrV (A := lA s_) (As := [.int x1, .int x2]) (rest := [.int (-2)]) hz okYT (c6_heard_bad l_ D k b I J G x1 x2 hB.1 hb) (cwV 2 hz.2.2.2.2 gL_law_X6_heard rfl rfl rfl (by decide +kernel) ⟨Nat.le_of_ble_eq_true rfl, Nat.le_of_ble_eq_true rfl⟩) hK trivial pm (D_ix hbk [0, 1, 2, 3, 4, 5, 6, 7, 8, 9, 10, 11, 12] rfl (by decide) (by decide)) hS 0 6 rfl rfl rfl rfl hl.1 rfl (Nat.le_of_ble_eq_true rfl) dL_law_602 ⟨Nat.le_of_ble_eq_true rfl, Nat.le_of_ble_eq_true rfl⟩ (fun r u H1 locs hp hP1 hS hfr => ?_)
    obtain rfl : r = -2 := hp
    have pm := hP1
    have pc_ : CPs D k a (nset C 0 (C 0 + 1)) F E Fd Ed Fp Ep Fq Eg K X ((G 9)) Z S Rr Y Nt Sl Mt Ch Q H1 := CPs.kept ⟨p0, p1, p2, p3, p4, p5, p6, p7, p8, p9, p10⟩ hba hfr
    obtain ⟨p0, p1, p2, p3, p4, p5, p6, p7, p8, p9, p10⟩ := pc_
    refine cmpE (tgt := 1063) hz (rfl) dL_law_605 (by decide) ?_
    exact hk _ _ ⟨nset C 0 (C 0 + 1), F, E, Fd, Ed, Fp, Ep, Fq, Eg, K, X, (G 9), Z, S, Rr, Y, Nt, Sl, Mt, Ch, Q, I, J, gset G 3 (sRef (G 3) 0), ⟨hB, hC.s0, hT, hQ, hM, hU⟩, ⟨p0, p1, p2, p3, p4, p5, p6, p7, p8, p9, p10⟩, pm⟩ hS ls hl
  · simp only [Bool.and_eq_true] at hb
    obtain ⟨hb1, hb2⟩ := hb
    obtain ⟨p, ⟨pl, ph⟩, rfl⟩ := wIn_t (by omega) (by omega) hb1
    obtain ⟨mn, ⟨mnl, mnh⟩, rfl⟩ := wIn_t (by omega) (by omega) hb2
    refine lv_aload_n hz.1 hz.2.1 dL_law_577 rfl (lv_at hl 1 rfl) ?_
    refine lfe (n := 1) hz hX hbl hS hl (by omega) hL hx1 (by decide) dL_law_578 dL_law_579 dL_law_580 dL_law_581 dL_law_582 ?_
    refine lfe (n := 2) hz hX hbl hS hl (by omega) hL hx2 (by decide) dL_law_583 dL_law_584 dL_law_585 dL_law_586 dL_law_587 ?_
    refine rdV (A := lA s_) (As := [.int (nI p), .int (nI mn)]) (rest := []) hz (okAm tS sk sv) (c5_heard_ok l_ D k a tS sk sv C F E ((G 0)) p mn hB.2 hB.1 (by omega) (by omega)) (cwV 2 hz.2.2.2.2 gL_law_X5_heard rfl rfl rfl (by decide +kernel) ⟨Nat.le_of_ble_eq_true rfl, Nat.le_of_ble_eq_true rfl⟩) hK hy (p0.app p1) (D_ix ha [0, 1, 2, 3, 4, 5, 6, 7, 8] rfl (by decide) (by decide)) hS 0 5 rfl rfl rfl rfl hl.1 rfl (Nat.le_of_ble_eq_true rfl) dL_law_588 ⟨Nat.le_of_ble_eq_true rfl, Nat.le_of_ble_eq_true rfl⟩ ?_
    refine lv_aload_n hz.1 hz.2.1 dL_law_591 rfl (lv_at hl 2 rfl) ?_
    refine lfe (n := 1) hz hX hbl hS hl (by omega) hL hx1 (by decide) dL_law_592 dL_law_593 dL_law_594 dL_law_595 dL_law_596 ?_
    refine lfe (n := 2) hz hX hbl hS hl (by omega) hL hx2 (by decide) dL_law_597 dL_law_598 dL_law_599 dL_law_600 dL_law_601 ?_
    refine rdV (A := lA s_) (As := [.int (nI p), .int (nI mn)]) (rest := [.int (nI (sHeard (G 0) p mn))]) hz okYT (c6_heard_ok l_ D k b I J G p mn hB.1 (by omega) (by omega)) (cwV 2 hz.2.2.2.2 gL_law_X6_heard rfl rfl rfl (by decide +kernel) ⟨Nat.le_of_ble_eq_true rfl, Nat.le_of_ble_eq_true rfl⟩) hK trivial pm (D_ix hbk [0, 1, 2, 3, 4, 5, 6, 7, 8, 9, 10, 11, 12] rfl (by decide) (by decide)) hS 0 6 rfl rfl rfl rfl hl.1 rfl (Nat.le_of_ble_eq_true rfl) dL_law_602 ⟨Nat.le_of_ble_eq_true rfl, Nat.le_of_ble_eq_true rfl⟩ ?_
    refine cmpE (tgt := 1063) hz (rfl) dL_law_605 (by decide) ?_
    exact hk H locs hI hS ls hl

set_option maxHeartbeats 4000000 in
set_option maxRecDepth 100000 in
theorem law_alarm {p_ : Program} {l_ : Launch} {e_ : Env} {s_ : State} {m_ : MethodId} {bl_ : List Frame} {me_ : Method} {c_ : Code} {D : va_G} {k : Nat → ClassId} {a b : Nat → Nat} {b0 L : Nat} {xs : Nat → Int32} {tS : Nat} {sk sv : Nat → Nat} {i : Nat} (E0 : LE p_ s_ m_ c_ D k a b b0 L xs tS sk sv) (hi : i + 6 ≤ L) (hk : LK p_ l_ e_ s_ m_ bl_ me_ c_ D k a b b0 i 1063) : LK p_ l_ e_ s_ m_ bl_ me_ c_ D k a b b0 i 610 := by
  obtain ⟨hz, hX, hbl, hK, hy, ha, hbk, hab, hL⟩ := E0
  have hba : ∀ i j, i < 13 → j < 54 → b i ≠ a j := fun i j h1 h2 q => hab j i h2 h1 q.symm
  intro H locs hI hS ls hl
  obtain ⟨C, F, E, Fd, Ed, Fp, Ep, Fq, Eg, K, X, T, Z, S, Rr, Y, Nt, Sl, Mt, Ch, Q, I, J, G, ⟨hB, hC, hT, hQ, hM, hU⟩, ⟨p0, p1, p2, p3, p4, p5, p6, p7, p8, p9, p10⟩, pm⟩ := id hI
  obtain ⟨eX, hI2, rfl, hTb⟩ := hT
  have hT : LT X (G 9) I (G 9) := ⟨eX, hI2, rfl, hTb⟩
  have f0 := hB.1.n2
  have f1 := hB.1.n9
  have f4 := hB.1.pc
  have f5 := hB.1.wc
  obtain ⟨x1, hx1⟩ : ∃ z, xs (i + 1) = z := ⟨_, rfl⟩
  cases hb : (wIn x1 0 59)
  · refine lv_aload_n hz.1 hz.2.1 dL_law_610 rfl (lv_at hl 1 rfl) ?_
    refine lfe (n := 1) hz hX hbl hS hl (by omega) hL hx1 (by decide) dL_law_611 dL_law_612 dL_law_613 dL_law_614 dL_law_615 ?_
    refine wrV (A := lA s_) (As := [.int x1]) (rest := []) hz (okAm tS sk sv) (c5_alarm_bad l_ D k a tS sk sv C F E ((G 0)) x1 hB.2 hB.1 hb) (cwV 1 hz.2.2.2.2 gL_law_X5_alarm rfl rfl rfl (by decide +kernel) ⟨Nat.le_of_ble_eq_true rfl, Nat.le_of_ble_eq_true rfl⟩) hK hy (p0.app p1) (D_ix ha [0, 1, 2, 3, 4, 5, 6, 7, 8] rfl (by decide) (by decide)) hS 0 5 rfl rfl rfl rfl hl.1 rfl (Nat.le_of_ble_eq_true rfl) dL_law_616 ⟨Nat.le_of_ble_eq_true rfl, Nat.le_of_ble_eq_true rfl⟩ (fun r u H1 locs hp hP1 hS hfr => ?_)
    obtain rfl : r = -2 := hp
    have p0 := hP1.left
    have hP1 := hP1.right
    have p1 := hP1
    have kp : ∀ (g_ : va_W) (jx : List Nat), g_.map (fun q => q.1) = jx.map a → (∀ j ∈ jx, j < 54) → (∀ j ∈ jx, j ∉ ([0, 1, 2, 3, 4, 5, 6, 7, 8] : List Nat)) → va_P D vwCl g_ H → va_P D vwCl g_ H1 := fun g_ jx h1 h2 h3 h4 => keepG (wc := ho a C ++ (bw a 1 k F E)) ha [0, 1, 2, 3, 4, 5, 6, 7, 8] jx rfl h1 (by decide) h2 h3 h4 hfr
    have p2 := kp _ [9, 10, 11, 12, 13, 14, 15, 16] rfl (by decide) (by decide) p2
    have p3 := kp _ [17] rfl (by decide) (by decide) p3
    have p4 := kp _ [18, 19, 20, 21, 22, 23, 24, 25] rfl (by decide) (by decide) p4
    have p5 := kp _ [26, 27, 28, 29, 30, 31, 32, 33] rfl (by decide) (by decide) p5
    have p6 := kp _ [34] rfl (by decide) (by decide) p6
    have p7 := kp _ [35, 36] rfl (by decide) (by decide) p7
    have p8 := kp _ [37, 38] rfl (by decide) (by decide) p8
    have p9 := kp _ [39, 40, 41, 42, 43, 44, 45, 46, 47, 48, 49, 50, 51, 52] rfl (by decide) (by decide) p9
    have p10 := kp _ [53] rfl (by decide) (by decide) p10
    have pm := keepX (wc := ho a C ++ (bw a 1 k F E)) (g := mw b k I J G) hab [0, 1, 2, 3, 4, 5, 6, 7, 8] [0, 1, 2, 3, 4, 5, 6, 7, 8, 9, 10, 11, 12] rfl rfl (by decide) (by decide) pm hfr
    refine lv_aload_n hz.1 hz.2.1 dL_law_619 rfl (lv_at hl 2 rfl) ?_
    refine lfe (n := 1) hz hX hbl hS hl (by omega) hL hx1 (by decide) dL_law_620 dL_law_621 dL_law_622 dL_law_623 dL_law_624 ?_
    refine wrV (A := lA s_) (As := [.int x1]) (rest := [.int (-2)]) hz okYT (c6_alarm_bad l_ D k b I J G x1 hb) (cwV 1 hz.2.2.2.2 gL_law_X6_alarm rfl rfl rfl (by decide +kernel) ⟨Nat.le_of_ble_eq_true rfl, Nat.le_of_ble_eq_true rfl⟩) hK trivial pm (D_ix hbk [0, 1, 2, 3, 4, 5, 6, 7, 8, 9, 10, 11, 12] rfl (by decide) (by decide)) hS 0 6 rfl rfl rfl rfl hl.1 rfl (Nat.le_of_ble_eq_true rfl) dL_law_625 ⟨Nat.le_of_ble_eq_true rfl, Nat.le_of_ble_eq_true rfl⟩ (fun r u H1 locs hp hP1 hS hfr => ?_)
    obtain rfl : r = -2 := hp
    have pm := hP1
    have pc_ : CPs D k a (nset C 0 (C 0 + 1)) F E Fd Ed Fp Ep Fq Eg K X ((G 9)) Z S Rr Y Nt Sl Mt Ch Q H1 := CPs.kept ⟨p0, p1, p2, p3, p4, p5, p6, p7, p8, p9, p10⟩ hba hfr
    obtain ⟨p0, p1, p2, p3, p4, p5, p6, p7, p8, p9, p10⟩ := pc_
    refine cmpE (tgt := 1063) hz (rfl) dL_law_628 (by decide) ?_
    exact hk _ _ ⟨nset C 0 (C 0 + 1), F, E, Fd, Ed, Fp, Ep, Fq, Eg, K, X, (G 9), Z, S, Rr, Y, Nt, Sl, Mt, Ch, Q, I, J, gset G 3 (sRef (G 3) 0), ⟨hB, hC.s0, hT, hQ, hM, hU⟩, ⟨p0, p1, p2, p3, p4, p5, p6, p7, p8, p9, p10⟩, pm⟩ hS ls hl
  · have hb1 := hb
    obtain ⟨mn, ⟨mnl, mnh⟩, rfl⟩ := wIn_t (by omega) (by omega) hb1
    refine lv_aload_n hz.1 hz.2.1 dL_law_610 rfl (lv_at hl 1 rfl) ?_
    refine lfe (n := 1) hz hX hbl hS hl (by omega) hL hx1 (by decide) dL_law_611 dL_law_612 dL_law_613 dL_law_614 dL_law_615 ?_
    refine rdV (A := lA s_) (As := [.int (nI mn)]) (rest := []) hz (okAm tS sk sv) (c5_alarm_ok l_ D k a tS sk sv C F E ((G 0)) mn hB.2 hB.1 (by omega)) (cwV 1 hz.2.2.2.2 gL_law_X5_alarm rfl rfl rfl (by decide +kernel) ⟨Nat.le_of_ble_eq_true rfl, Nat.le_of_ble_eq_true rfl⟩) hK hy (p0.app p1) (D_ix ha [0, 1, 2, 3, 4, 5, 6, 7, 8] rfl (by decide) (by decide)) hS 0 5 rfl rfl rfl rfl hl.1 rfl (Nat.le_of_ble_eq_true rfl) dL_law_616 ⟨Nat.le_of_ble_eq_true rfl, Nat.le_of_ble_eq_true rfl⟩ ?_
    refine lv_aload_n hz.1 hz.2.1 dL_law_619 rfl (lv_at hl 2 rfl) ?_
    refine lfe (n := 1) hz hX hbl hS hl (by omega) hL hx1 (by decide) dL_law_620 dL_law_621 dL_law_622 dL_law_623 dL_law_624 ?_
    refine rdV (A := lA s_) (As := [.int (nI mn)]) (rest := [.int (nI (sAlarm (G 0) mn))]) hz okYT (c6_alarm_ok l_ D k b I J G mn hB.1 (by omega)) (cwV 1 hz.2.2.2.2 gL_law_X6_alarm rfl rfl rfl (by decide +kernel) ⟨Nat.le_of_ble_eq_true rfl, Nat.le_of_ble_eq_true rfl⟩) hK trivial pm (D_ix hbk [0, 1, 2, 3, 4, 5, 6, 7, 8, 9, 10, 11, 12] rfl (by decide) (by decide)) hS 0 6 rfl rfl rfl rfl hl.1 rfl (Nat.le_of_ble_eq_true rfl) dL_law_625 ⟨Nat.le_of_ble_eq_true rfl, Nat.le_of_ble_eq_true rfl⟩ ?_
    refine cmpE (tgt := 1063) hz (rfl) dL_law_628 (by decide) ?_
    exact hk H locs hI hS ls hl

set_option maxHeartbeats 4000000 in
set_option maxRecDepth 100000 in
theorem law_which {p_ : Program} {l_ : Launch} {e_ : Env} {s_ : State} {m_ : MethodId} {bl_ : List Frame} {me_ : Method} {c_ : Code} {D : va_G} {k : Nat → ClassId} {a b : Nat → Nat} {b0 L : Nat} {xs : Nat → Int32} {tS : Nat} {sk sv : Nat → Nat} {i : Nat} (E0 : LE p_ s_ m_ c_ D k a b b0 L xs tS sk sv) (hi : i + 6 ≤ L) (hk : LK p_ l_ e_ s_ m_ bl_ me_ c_ D k a b b0 i 1063) : LK p_ l_ e_ s_ m_ bl_ me_ c_ D k a b b0 i 633 := by
  obtain ⟨hz, hX, hbl, hK, hy, ha, hbk, hab, hL⟩ := E0
  have hba : ∀ i j, i < 13 → j < 54 → b i ≠ a j := fun i j h1 h2 q => hab j i h2 h1 q.symm
  intro H locs hI hS ls hl
  obtain ⟨C, F, E, Fd, Ed, Fp, Ep, Fq, Eg, K, X, T, Z, S, Rr, Y, Nt, Sl, Mt, Ch, Q, I, J, G, ⟨hB, hC, hT, hQ, hM, hU⟩, ⟨p0, p1, p2, p3, p4, p5, p6, p7, p8, p9, p10⟩, pm⟩ := id hI
  obtain ⟨eX, hI2, rfl, hTb⟩ := hT
  have hT : LT X (G 9) I (G 9) := ⟨eX, hI2, rfl, hTb⟩
  have f0 := hB.1.n2
  have f1 := hB.1.n9
  have f4 := hB.1.pc
  have f5 := hB.1.wc
  obtain ⟨x1, hx1⟩ : ∃ z, xs (i + 1) = z := ⟨_, rfl⟩
  obtain ⟨x2, hx2⟩ : ∃ z, xs (i + 2) = z := ⟨_, rfl⟩
  obtain ⟨x3, hx3⟩ : ∃ z, xs (i + 3) = z := ⟨_, rfl⟩
  obtain ⟨x4, hx4⟩ : ∃ z, xs (i + 4) = z := ⟨_, rfl⟩
  obtain ⟨x5, hx5⟩ : ∃ z, xs (i + 5) = z := ⟨_, rfl⟩
  cases hb : (wIn x1 0 (G 0 0 - 1) && wIn x3 0 (G 0 0 - 1) && !decide (x1 = x3) && wIn x2 0 4095 && wIn x4 0 4095 && decide (-1 ≤ x5))
  · refine lv_aload_n hz.1 hz.2.1 dL_law_633 rfl (lv_at hl 1 rfl) ?_
    refine lfe (n := 1) hz hX hbl hS hl (by omega) hL hx1 (by decide) dL_law_634 dL_law_635 dL_law_636 dL_law_637 dL_law_638 ?_
    refine lfe (n := 2) hz hX hbl hS hl (by omega) hL hx2 (by decide) dL_law_639 dL_law_640 dL_law_641 dL_law_642 dL_law_643 ?_
    refine lfe (n := 3) hz hX hbl hS hl (by omega) hL hx3 (by decide) dL_law_644 dL_law_645 dL_law_646 dL_law_647 dL_law_648 ?_
    refine lfe (n := 4) hz hX hbl hS hl (by omega) hL hx4 (by decide) dL_law_649 dL_law_650 dL_law_651 dL_law_652 dL_law_653 ?_
    refine lfe (n := 5) hz hX hbl hS hl (by omega) hL hx5 (by decide) dL_law_654 dL_law_655 dL_law_656 dL_law_657 dL_law_658 ?_
    refine wrV (A := lA s_) (As := [.int x1, .int x2, .int x3, .int x4, .int x5]) (rest := []) hz (okAm tS sk sv) (c5_which_bad l_ D k a tS sk sv C F E ((G 0)) x1 x2 x3 x4 x5 hB.2 hB.1 hb) (cwV 5 hz.2.2.2.2 gL_law_X5_which rfl rfl rfl (by decide +kernel) ⟨Nat.le_of_ble_eq_true rfl, Nat.le_of_ble_eq_true rfl⟩) hK hy (p0.app p1) (D_ix ha [0, 1, 2, 3, 4, 5, 6, 7, 8] rfl (by decide) (by decide)) hS 0 5 rfl rfl rfl rfl hl.1 rfl (Nat.le_of_ble_eq_true rfl) dL_law_659 ⟨Nat.le_of_ble_eq_true rfl, Nat.le_of_ble_eq_true rfl⟩ (fun r u H1 locs hp hP1 hS hfr => ?_)
    obtain rfl : r = -10 := hp
    have p0 := hP1.left
    have hP1 := hP1.right
    have p1 := hP1
    have kp : ∀ (g_ : va_W) (jx : List Nat), g_.map (fun q => q.1) = jx.map a → (∀ j ∈ jx, j < 54) → (∀ j ∈ jx, j ∉ ([0, 1, 2, 3, 4, 5, 6, 7, 8] : List Nat)) → va_P D vwCl g_ H → va_P D vwCl g_ H1 := fun g_ jx h1 h2 h3 h4 => keepG (wc := ho a C ++ (bw a 1 k F E)) ha [0, 1, 2, 3, 4, 5, 6, 7, 8] jx rfl h1 (by decide) h2 h3 h4 hfr
    have p2 := kp _ [9, 10, 11, 12, 13, 14, 15, 16] rfl (by decide) (by decide) p2
    have p3 := kp _ [17] rfl (by decide) (by decide) p3
    have p4 := kp _ [18, 19, 20, 21, 22, 23, 24, 25] rfl (by decide) (by decide) p4
    have p5 := kp _ [26, 27, 28, 29, 30, 31, 32, 33] rfl (by decide) (by decide) p5
    have p6 := kp _ [34] rfl (by decide) (by decide) p6
    have p7 := kp _ [35, 36] rfl (by decide) (by decide) p7
    have p8 := kp _ [37, 38] rfl (by decide) (by decide) p8
    have p9 := kp _ [39, 40, 41, 42, 43, 44, 45, 46, 47, 48, 49, 50, 51, 52] rfl (by decide) (by decide) p9
    have p10 := kp _ [53] rfl (by decide) (by decide) p10
    have pm := keepX (wc := ho a C ++ (bw a 1 k F E)) (g := mw b k I J G) hab [0, 1, 2, 3, 4, 5, 6, 7, 8] [0, 1, 2, 3, 4, 5, 6, 7, 8, 9, 10, 11, 12] rfl rfl (by decide) (by decide) pm hfr
    refine lv_aload_n hz.1 hz.2.1 dL_law_662 rfl (lv_at hl 2 rfl) ?_
    refine lfe (n := 1) hz hX hbl hS hl (by omega) hL hx1 (by decide) dL_law_663 dL_law_664 dL_law_665 dL_law_666 dL_law_667 ?_
    refine lfe (n := 2) hz hX hbl hS hl (by omega) hL hx2 (by decide) dL_law_668 dL_law_669 dL_law_670 dL_law_671 dL_law_672 ?_
    refine lfe (n := 3) hz hX hbl hS hl (by omega) hL hx3 (by decide) dL_law_673 dL_law_674 dL_law_675 dL_law_676 dL_law_677 ?_
    refine lfe (n := 4) hz hX hbl hS hl (by omega) hL hx4 (by decide) dL_law_678 dL_law_679 dL_law_680 dL_law_681 dL_law_682 ?_
    refine lfe (n := 5) hz hX hbl hS hl (by omega) hL hx5 (by decide) dL_law_683 dL_law_684 dL_law_685 dL_law_686 dL_law_687 ?_
    refine wrV (A := lA s_) (As := [.int x1, .int x2, .int x3, .int x4, .int x5]) (rest := [.int (-10)]) hz okYT (c6_which_bad l_ D k b I J G x1 x2 x3 x4 x5 hB.1 hb) (cwV 5 hz.2.2.2.2 gL_law_X6_which rfl rfl rfl (by decide +kernel) ⟨Nat.le_of_ble_eq_true rfl, Nat.le_of_ble_eq_true rfl⟩) hK trivial pm (D_ix hbk [0, 1, 2, 3, 4, 5, 6, 7, 8, 9, 10, 11, 12] rfl (by decide) (by decide)) hS 0 6 rfl rfl rfl rfl hl.1 rfl (Nat.le_of_ble_eq_true rfl) dL_law_688 ⟨Nat.le_of_ble_eq_true rfl, Nat.le_of_ble_eq_true rfl⟩ (fun r u H1 locs hp hP1 hS hfr => ?_)
    obtain rfl : r = -10 := hp
    have pm := hP1
    have pc_ : CPs D k a (nset C 0 (C 0 + 1)) F E Fd Ed Fp Ep Fq Eg K X ((G 9)) Z S Rr Y Nt Sl Mt Ch Q H1 := CPs.kept ⟨p0, p1, p2, p3, p4, p5, p6, p7, p8, p9, p10⟩ hba hfr
    obtain ⟨p0, p1, p2, p3, p4, p5, p6, p7, p8, p9, p10⟩ := pc_
    refine cmpE (tgt := 1063) hz (rfl) dL_law_691 (by decide) ?_
    exact hk _ _ ⟨nset C 0 (C 0 + 1), F, E, Fd, Ed, Fp, Ep, Fq, Eg, K, X, (G 9), Z, S, Rr, Y, Nt, Sl, Mt, Ch, Q, I, J, gset G 3 (sRef (G 3) 0), ⟨hB, hC.s0, hT, hQ, hM, hU⟩, ⟨p0, p1, p2, p3, p4, p5, p6, p7, p8, p9, p10⟩, pm⟩ hS ls hl
  · simp only [Bool.and_eq_true] at hb
    obtain ⟨⟨⟨⟨⟨hb1, hb2⟩, hb3⟩, hb4⟩, hb5⟩, hb6⟩ := hb
    obtain ⟨pa, ⟨pal, pah⟩, rfl⟩ := wIn_t (by omega) (by omega) hb1
    obtain ⟨pb, ⟨pbl, pbh⟩, rfl⟩ := wIn_t (by omega) (by omega) hb2
    obtain ⟨na, ⟨nal, nah⟩, rfl⟩ := wIn_t (by omega) (by omega) hb4
    obtain ⟨nb, ⟨nbl, nbh⟩, rfl⟩ := wIn_t (by omega) (by omega) hb5
    have hne : pa ≠ pb := fun q => by rw [q] at hb3; simp at hb3
    have hx5b : -1 ≤ x5 := of_decide_eq_true hb6
    refine lv_aload_n hz.1 hz.2.1 dL_law_633 rfl (lv_at hl 1 rfl) ?_
    refine lfe (n := 1) hz hX hbl hS hl (by omega) hL hx1 (by decide) dL_law_634 dL_law_635 dL_law_636 dL_law_637 dL_law_638 ?_
    refine lfe (n := 2) hz hX hbl hS hl (by omega) hL hx2 (by decide) dL_law_639 dL_law_640 dL_law_641 dL_law_642 dL_law_643 ?_
    refine lfe (n := 3) hz hX hbl hS hl (by omega) hL hx3 (by decide) dL_law_644 dL_law_645 dL_law_646 dL_law_647 dL_law_648 ?_
    refine lfe (n := 4) hz hX hbl hS hl (by omega) hL hx4 (by decide) dL_law_649 dL_law_650 dL_law_651 dL_law_652 dL_law_653 ?_
    refine lfe (n := 5) hz hX hbl hS hl (by omega) hL hx5 (by decide) dL_law_654 dL_law_655 dL_law_656 dL_law_657 dL_law_658 ?_
    refine rdV (A := lA s_) (As := [.int (nI pa), .int (nI na), .int (nI pb), .int (nI nb), .int x5]) (rest := []) hz (okAm tS sk sv) (c5_which_ok l_ D k a tS sk sv C F E ((G 0)) pa na pb nb x5 hB.2 hB.1 (by omega) (by omega) hne (by omega) (by omega) hx5b) (cwV 5 hz.2.2.2.2 gL_law_X5_which rfl rfl rfl (by decide +kernel) ⟨Nat.le_of_ble_eq_true rfl, Nat.le_of_ble_eq_true rfl⟩) hK hy (p0.app p1) (D_ix ha [0, 1, 2, 3, 4, 5, 6, 7, 8] rfl (by decide) (by decide)) hS 0 5 rfl rfl rfl rfl hl.1 rfl (Nat.le_of_ble_eq_true rfl) dL_law_659 ⟨Nat.le_of_ble_eq_true rfl, Nat.le_of_ble_eq_true rfl⟩ ?_
    refine lv_aload_n hz.1 hz.2.1 dL_law_662 rfl (lv_at hl 2 rfl) ?_
    refine lfe (n := 1) hz hX hbl hS hl (by omega) hL hx1 (by decide) dL_law_663 dL_law_664 dL_law_665 dL_law_666 dL_law_667 ?_
    refine lfe (n := 2) hz hX hbl hS hl (by omega) hL hx2 (by decide) dL_law_668 dL_law_669 dL_law_670 dL_law_671 dL_law_672 ?_
    refine lfe (n := 3) hz hX hbl hS hl (by omega) hL hx3 (by decide) dL_law_673 dL_law_674 dL_law_675 dL_law_676 dL_law_677 ?_
    refine lfe (n := 4) hz hX hbl hS hl (by omega) hL hx4 (by decide) dL_law_678 dL_law_679 dL_law_680 dL_law_681 dL_law_682 ?_
    refine lfe (n := 5) hz hX hbl hS hl (by omega) hL hx5 (by decide) dL_law_683 dL_law_684 dL_law_685 dL_law_686 dL_law_687 ?_
    refine rdV (A := lA s_) (As := [.int (nI pa), .int (nI na), .int (nI pb), .int (nI nb), .int x5]) (rest := [.int (sWhich (G 0) pa na pb nb x5)]) hz okYT (c6_which_ok l_ D k b I J G pa na pb nb x5 hB.1 (by omega) (by omega) hne (by omega) (by omega) hx5b) (cwV 5 hz.2.2.2.2 gL_law_X6_which rfl rfl rfl (by decide +kernel) ⟨Nat.le_of_ble_eq_true rfl, Nat.le_of_ble_eq_true rfl⟩) hK trivial pm (D_ix hbk [0, 1, 2, 3, 4, 5, 6, 7, 8, 9, 10, 11, 12] rfl (by decide) (by decide)) hS 0 6 rfl rfl rfl rfl hl.1 rfl (Nat.le_of_ble_eq_true rfl) dL_law_688 ⟨Nat.le_of_ble_eq_true rfl, Nat.le_of_ble_eq_true rfl⟩ ?_
    refine cmpE (tgt := 1063) hz (rfl) dL_law_691 (by decide) ?_
    exact hk H locs hI hS ls hl

set_option maxHeartbeats 4000000 in
set_option maxRecDepth 100000 in
theorem law_cover {p_ : Program} {l_ : Launch} {e_ : Env} {s_ : State} {m_ : MethodId} {bl_ : List Frame} {me_ : Method} {c_ : Code} {D : va_G} {k : Nat → ClassId} {a b : Nat → Nat} {b0 L : Nat} {xs : Nat → Int32} {tS : Nat} {sk sv : Nat → Nat} {i : Nat} (E0 : LE p_ s_ m_ c_ D k a b b0 L xs tS sk sv) (hi : i + 6 ≤ L) (hk : LK p_ l_ e_ s_ m_ bl_ me_ c_ D k a b b0 i 1063) : LK p_ l_ e_ s_ m_ bl_ me_ c_ D k a b b0 i 696 := by
  obtain ⟨hz, hX, hbl, hK, hy, ha, hbk, hab, hL⟩ := E0
  have hba : ∀ i j, i < 13 → j < 54 → b i ≠ a j := fun i j h1 h2 q => hab j i h2 h1 q.symm
  intro H locs hI hS ls hl
  obtain ⟨C, F, E, Fd, Ed, Fp, Ep, Fq, Eg, K, X, T, Z, S, Rr, Y, Nt, Sl, Mt, Ch, Q, I, J, G, ⟨hB, hC, hT, hQ, hM, hU⟩, ⟨p0, p1, p2, p3, p4, p5, p6, p7, p8, p9, p10⟩, pm⟩ := id hI
  obtain ⟨eX, hI2, rfl, hTb⟩ := hT
  have hT : LT X (G 9) I (G 9) := ⟨eX, hI2, rfl, hTb⟩
  have f0 := hB.1.n2
  have f1 := hB.1.n9
  have f4 := hB.1.pc
  have f5 := hB.1.wc
  obtain ⟨x1, hx1⟩ : ∃ z, xs (i + 1) = z := ⟨_, rfl⟩
  cases hb : (wIn x1 1 3)
  · refine lv_aload_n hz.1 hz.2.1 dL_law_696 rfl (lv_at hl 1 rfl) ?_
    refine lfe (n := 1) hz hX hbl hS hl (by omega) hL hx1 (by decide) dL_law_697 dL_law_698 dL_law_699 dL_law_700 dL_law_701 ?_
    refine wrV (A := lA s_) (As := [.int x1]) (rest := []) hz (okAm tS sk sv) (c5_cover_bad l_ D k a tS sk sv C F E ((G 0)) x1 hB.2 hB.1 hb) (cwV 1 hz.2.2.2.2 gL_law_X5_cover rfl rfl rfl (by decide +kernel) ⟨Nat.le_of_ble_eq_true rfl, Nat.le_of_ble_eq_true rfl⟩) hK hy (p0.app p1) (D_ix ha [0, 1, 2, 3, 4, 5, 6, 7, 8] rfl (by decide) (by decide)) hS 0 5 rfl rfl rfl rfl hl.1 rfl (Nat.le_of_ble_eq_true rfl) dL_law_702 ⟨Nat.le_of_ble_eq_true rfl, Nat.le_of_ble_eq_true rfl⟩ (fun r u H1 locs hp hP1 hS hfr => ?_)
    obtain rfl : r = -2 := hp
    have p0 := hP1.left
    have hP1 := hP1.right
    have p1 := hP1
    have kp : ∀ (g_ : va_W) (jx : List Nat), g_.map (fun q => q.1) = jx.map a → (∀ j ∈ jx, j < 54) → (∀ j ∈ jx, j ∉ ([0, 1, 2, 3, 4, 5, 6, 7, 8] : List Nat)) → va_P D vwCl g_ H → va_P D vwCl g_ H1 := fun g_ jx h1 h2 h3 h4 => keepG (wc := ho a C ++ (bw a 1 k F E)) ha [0, 1, 2, 3, 4, 5, 6, 7, 8] jx rfl h1 (by decide) h2 h3 h4 hfr
    have p2 := kp _ [9, 10, 11, 12, 13, 14, 15, 16] rfl (by decide) (by decide) p2
    have p3 := kp _ [17] rfl (by decide) (by decide) p3
    have p4 := kp _ [18, 19, 20, 21, 22, 23, 24, 25] rfl (by decide) (by decide) p4
    have p5 := kp _ [26, 27, 28, 29, 30, 31, 32, 33] rfl (by decide) (by decide) p5
    have p6 := kp _ [34] rfl (by decide) (by decide) p6
    have p7 := kp _ [35, 36] rfl (by decide) (by decide) p7
    have p8 := kp _ [37, 38] rfl (by decide) (by decide) p8
    have p9 := kp _ [39, 40, 41, 42, 43, 44, 45, 46, 47, 48, 49, 50, 51, 52] rfl (by decide) (by decide) p9
    have p10 := kp _ [53] rfl (by decide) (by decide) p10
    have pm := keepX (wc := ho a C ++ (bw a 1 k F E)) (g := mw b k I J G) hab [0, 1, 2, 3, 4, 5, 6, 7, 8] [0, 1, 2, 3, 4, 5, 6, 7, 8, 9, 10, 11, 12] rfl rfl (by decide) (by decide) pm hfr
    refine lv_aload_n hz.1 hz.2.1 dL_law_705 rfl (lv_at hl 2 rfl) ?_
    refine lfe (n := 1) hz hX hbl hS hl (by omega) hL hx1 (by decide) dL_law_706 dL_law_707 dL_law_708 dL_law_709 dL_law_710 ?_
    refine wrV (A := lA s_) (As := [.int x1]) (rest := [.int (-2)]) hz okYT (c6_cover_bad l_ D k b I J G x1 hb) (cwV 1 hz.2.2.2.2 gL_law_X6_cover rfl rfl rfl (by decide +kernel) ⟨Nat.le_of_ble_eq_true rfl, Nat.le_of_ble_eq_true rfl⟩) hK trivial pm (D_ix hbk [0, 1, 2, 3, 4, 5, 6, 7, 8, 9, 10, 11, 12] rfl (by decide) (by decide)) hS 0 6 rfl rfl rfl rfl hl.1 rfl (Nat.le_of_ble_eq_true rfl) dL_law_711 ⟨Nat.le_of_ble_eq_true rfl, Nat.le_of_ble_eq_true rfl⟩ (fun r u H1 locs hp hP1 hS hfr => ?_)
    obtain rfl : r = -2 := hp
    have pm := hP1
    have pc_ : CPs D k a (nset C 0 (C 0 + 1)) F E Fd Ed Fp Ep Fq Eg K X ((G 9)) Z S Rr Y Nt Sl Mt Ch Q H1 := CPs.kept ⟨p0, p1, p2, p3, p4, p5, p6, p7, p8, p9, p10⟩ hba hfr
    obtain ⟨p0, p1, p2, p3, p4, p5, p6, p7, p8, p9, p10⟩ := pc_
    refine cmpE (tgt := 1063) hz (rfl) dL_law_714 (by decide) ?_
    exact hk _ _ ⟨nset C 0 (C 0 + 1), F, E, Fd, Ed, Fp, Ep, Fq, Eg, K, X, (G 9), Z, S, Rr, Y, Nt, Sl, Mt, Ch, Q, I, J, gset G 3 (sRef (G 3) 0), ⟨hB, hC.s0, hT, hQ, hM, hU⟩, ⟨p0, p1, p2, p3, p4, p5, p6, p7, p8, p9, p10⟩, pm⟩ hS ls hl
  · have hb1 := hb
    obtain ⟨kk, ⟨kkl, kkh⟩, rfl⟩ := wIn_t (by omega) (by omega) hb1
    refine lv_aload_n hz.1 hz.2.1 dL_law_696 rfl (lv_at hl 1 rfl) ?_
    refine lfe (n := 1) hz hX hbl hS hl (by omega) hL hx1 (by decide) dL_law_697 dL_law_698 dL_law_699 dL_law_700 dL_law_701 ?_
    refine wrV (A := lA s_) (As := [.int (nI kk)]) (rest := []) hz (okAm tS sk sv) (c5_cover_ok l_ D k a tS sk sv C F E Z S Rr ((G 0)) kk hB.2 hB.1 kkl kkh) (cwV 1 hz.2.2.2.2 gL_law_X5_cover rfl rfl rfl (by decide +kernel) ⟨Nat.le_of_ble_eq_true rfl, Nat.le_of_ble_eq_true rfl⟩) hK hy (p0.app (p1.app p8)) (D_ix ha [0, 1, 2, 3, 4, 5, 6, 7, 8, 37, 38] rfl (by decide) (by decide)) hS 0 5 rfl rfl rfl rfl hl.1 rfl (Nat.le_of_ble_eq_true rfl) dL_law_702 ⟨Nat.le_of_ble_eq_true rfl, Nat.le_of_ble_eq_true rfl⟩ (fun r u H1 locs hp hP1 hS hfr => ?_)
    obtain rfl : r = oI (sCover (G 0) kk) := hp
    have p0 := hP1.left
    have hP1 := hP1.right
    have p1 := hP1.left
    have hP1 := hP1.right
    have p8 := hP1
    have kp : ∀ (g_ : va_W) (jx : List Nat), g_.map (fun q => q.1) = jx.map a → (∀ j ∈ jx, j < 54) → (∀ j ∈ jx, j ∉ ([0, 1, 2, 3, 4, 5, 6, 7, 8, 37, 38] : List Nat)) → va_P D vwCl g_ H → va_P D vwCl g_ H1 := fun g_ jx h1 h2 h3 h4 => keepG (wc := ho a C ++ (bw a 1 k F E ++ (ww a k Z S Rr))) ha [0, 1, 2, 3, 4, 5, 6, 7, 8, 37, 38] jx rfl h1 (by decide) h2 h3 h4 hfr
    have p2 := kp _ [9, 10, 11, 12, 13, 14, 15, 16] rfl (by decide) (by decide) p2
    have p3 := kp _ [17] rfl (by decide) (by decide) p3
    have p4 := kp _ [18, 19, 20, 21, 22, 23, 24, 25] rfl (by decide) (by decide) p4
    have p5 := kp _ [26, 27, 28, 29, 30, 31, 32, 33] rfl (by decide) (by decide) p5
    have p6 := kp _ [34] rfl (by decide) (by decide) p6
    have p7 := kp _ [35, 36] rfl (by decide) (by decide) p7
    have p9 := kp _ [39, 40, 41, 42, 43, 44, 45, 46, 47, 48, 49, 50, 51, 52] rfl (by decide) (by decide) p9
    have p10 := kp _ [53] rfl (by decide) (by decide) p10
    have pm := keepX (wc := ho a C ++ (bw a 1 k F E ++ (ww a k Z S Rr))) (g := mw b k I J G) hab [0, 1, 2, 3, 4, 5, 6, 7, 8, 37, 38] [0, 1, 2, 3, 4, 5, 6, 7, 8, 9, 10, 11, 12] rfl rfl (by decide) (by decide) pm hfr
    refine lv_aload_n hz.1 hz.2.1 dL_law_705 rfl (lv_at hl 2 rfl) ?_
    refine lfe (n := 1) hz hX hbl hS hl (by omega) hL hx1 (by decide) dL_law_706 dL_law_707 dL_law_708 dL_law_709 dL_law_710 ?_
    refine rdV (A := lA s_) (As := [.int (nI kk)]) (rest := [.int (oI (sCover (G 0) kk))]) hz okYT (c6_cover_ok l_ D k b I J G kk hB.1 kkl kkh) (cwV 1 hz.2.2.2.2 gL_law_X6_cover rfl rfl rfl (by decide +kernel) ⟨Nat.le_of_ble_eq_true rfl, Nat.le_of_ble_eq_true rfl⟩) hK trivial pm (D_ix hbk [0, 1, 2, 3, 4, 5, 6, 7, 8, 9, 10, 11, 12] rfl (by decide) (by decide)) hS 0 6 rfl rfl rfl rfl hl.1 rfl (Nat.le_of_ble_eq_true rfl) dL_law_711 ⟨Nat.le_of_ble_eq_true rfl, Nat.le_of_ble_eq_true rfl⟩ ?_
    refine cmpE (tgt := 1063) hz (rfl) dL_law_714 (by decide) ?_
    exact hk _ _ ⟨C, F, E, Fd, Ed, Fp, Ep, Fq, Eg, K, X, (G 9), Z, nset S 0 (fb_ct (kSt (G 0)) ((G 0) 0 - 1)), lrR (G 0) Rr ((G 0) 0 - 1), Y, Nt, Sl, Mt, Ch, Q, I, J, G, ⟨hB, hC, hT, hQ, hM, hU⟩, ⟨p0, p1, p2, p3, p4, p5, p6, p7, p8, p9, p10⟩, pm⟩ hS ls hl

set_option maxHeartbeats 4000000 in
set_option maxRecDepth 100000 in
theorem law_clashes {p_ : Program} {l_ : Launch} {e_ : Env} {s_ : State} {m_ : MethodId} {bl_ : List Frame} {me_ : Method} {c_ : Code} {D : va_G} {k : Nat → ClassId} {a b : Nat → Nat} {b0 L : Nat} {xs : Nat → Int32} {tS : Nat} {sk sv : Nat → Nat} {i : Nat} (E0 : LE p_ s_ m_ c_ D k a b b0 L xs tS sk sv) (hi : i + 6 ≤ L) (hk : LK p_ l_ e_ s_ m_ bl_ me_ c_ D k a b b0 i 1063) : LK p_ l_ e_ s_ m_ bl_ me_ c_ D k a b b0 i 719 := by
  obtain ⟨hz, hX, hbl, hK, hy, ha, hbk, hab, hL⟩ := E0
  have hba : ∀ i j, i < 13 → j < 54 → b i ≠ a j := fun i j h1 h2 q => hab j i h2 h1 q.symm
  intro H locs hI hS ls hl
  obtain ⟨C, F, E, Fd, Ed, Fp, Ep, Fq, Eg, K, X, T, Z, S, Rr, Y, Nt, Sl, Mt, Ch, Q, I, J, G, ⟨hB, hC, hT, hQ, hM, hU⟩, ⟨p0, p1, p2, p3, p4, p5, p6, p7, p8, p9, p10⟩, pm⟩ := id hI
  obtain ⟨eX, hI2, rfl, hTb⟩ := hT
  have hT : LT X (G 9) I (G 9) := ⟨eX, hI2, rfl, hTb⟩
  have f0 := hB.1.n2
  have f1 := hB.1.n9
  have f4 := hB.1.pc
  have f5 := hB.1.wc
  refine lv_aload_n hz.1 hz.2.1 dL_law_719 rfl (lv_at hl 1 rfl) ?_
  refine rdV (A := lA s_) (As := []) (rest := []) hz (okAm tS sk sv) (c5_clashes l_ D k a tS sk sv C F E ((G 0)) hB.2 hB.1 ) (cwV 0 hz.2.2.2.2 gL_law_X5_clashes rfl rfl rfl (by decide +kernel) ⟨Nat.le_of_ble_eq_true rfl, Nat.le_of_ble_eq_true rfl⟩) hK hy (p0.app p1) (D_ix ha [0, 1, 2, 3, 4, 5, 6, 7, 8] rfl (by decide) (by decide)) hS 0 5 rfl rfl rfl rfl hl.1 rfl (Nat.le_of_ble_eq_true rfl) dL_law_720 ⟨Nat.le_of_ble_eq_true rfl, Nat.le_of_ble_eq_true rfl⟩ ?_
  refine lv_aload_n hz.1 hz.2.1 dL_law_723 rfl (lv_at hl 2 rfl) ?_
  refine rdV (A := lA s_) (As := []) (rest := [.int (nI (sClash (G 0)))]) hz okYT (c6_clashes l_ D k b I J G  hB.1) (cwV 0 hz.2.2.2.2 gL_law_X6_clashes rfl rfl rfl (by decide +kernel) ⟨Nat.le_of_ble_eq_true rfl, Nat.le_of_ble_eq_true rfl⟩) hK trivial pm (D_ix hbk [0, 1, 2, 3, 4, 5, 6, 7, 8, 9, 10, 11, 12] rfl (by decide) (by decide)) hS 0 6 rfl rfl rfl rfl hl.1 rfl (Nat.le_of_ble_eq_true rfl) dL_law_724 ⟨Nat.le_of_ble_eq_true rfl, Nat.le_of_ble_eq_true rfl⟩ ?_
  refine cmpE (tgt := 1063) hz (rfl) dL_law_727 (by decide) ?_
  exact hk H locs hI hS ls hl

set_option maxHeartbeats 4000000 in
set_option maxRecDepth 100000 in
theorem law_retune {p_ : Program} {l_ : Launch} {e_ : Env} {s_ : State} {m_ : MethodId} {bl_ : List Frame} {me_ : Method} {c_ : Code} {D : va_G} {k : Nat → ClassId} {a b : Nat → Nat} {b0 L : Nat} {xs : Nat → Int32} {tS : Nat} {sk sv : Nat → Nat} {i : Nat} (E0 : LE p_ s_ m_ c_ D k a b b0 L xs tS sk sv) (hi : i + 6 ≤ L) (hk : LK p_ l_ e_ s_ m_ bl_ me_ c_ D k a b b0 i 1063) : LK p_ l_ e_ s_ m_ bl_ me_ c_ D k a b b0 i 732 := by
  obtain ⟨hz, hX, hbl, hK, hy, ha, hbk, hab, hL⟩ := E0
  have hba : ∀ i j, i < 13 → j < 54 → b i ≠ a j := fun i j h1 h2 q => hab j i h2 h1 q.symm
  intro H locs hI hS ls hl
  obtain ⟨C, F, E, Fd, Ed, Fp, Ep, Fq, Eg, K, X, T, Z, S, Rr, Y, Nt, Sl, Mt, Ch, Q, I, J, G, ⟨hB, hC, hT, hQ, hM, hU⟩, ⟨p0, p1, p2, p3, p4, p5, p6, p7, p8, p9, p10⟩, pm⟩ := id hI
  obtain ⟨eX, hI2, rfl, hTb⟩ := hT
  have hT : LT X (G 9) I (G 9) := ⟨eX, hI2, rfl, hTb⟩
  have f0 := hB.1.n2
  have f1 := hB.1.n9
  have f4 := hB.1.pc
  have f5 := hB.1.wc
  refine lv_aload_n hz.1 hz.2.1 dL_law_732 rfl (lv_at hl 1 rfl) ?_
  refine wrV (A := lA s_) (As := []) (rest := []) hz (okAm tS sk sv) (c5_retune l_ D k a tS sk sv C F E Y Nt Sl Mt Ch ((G 0)) hB.2 hB.1 hU) (cwV 0 hz.2.2.2.2 gL_law_X5_retune rfl rfl rfl (by decide +kernel) ⟨Nat.le_of_ble_eq_true rfl, Nat.le_of_ble_eq_true rfl⟩) hK hy (p0.app (p1.app p9)) (D_ix ha [0, 1, 2, 3, 4, 5, 6, 7, 8, 39, 40, 41, 42, 43, 44, 45, 46, 47, 48, 49, 50, 51, 52] rfl (by decide) (by decide)) hS 0 5 rfl rfl rfl rfl hl.1 rfl (Nat.le_of_ble_eq_true rfl) dL_law_733 ⟨Nat.le_of_ble_eq_true rfl, Nat.le_of_ble_eq_true rfl⟩ (fun r u H1 locs hp hP1 hS hfr => ?_)
  obtain ⟨U1, hren_⟩ : ∃ z_, z_ = u := ⟨u, rfl⟩
  subst hren_
  obtain ⟨g1, g3⟩ := hp
  obtain rfl : r = oI (sRet (G 0)) := g1
  have p0 := hP1.left
  have hP1 := hP1.right
  have p1 := hP1.left
  have hP1 := hP1.right
  have p9 := hP1
  have kp : ∀ (g_ : va_W) (jx : List Nat), g_.map (fun q => q.1) = jx.map a → (∀ j ∈ jx, j < 54) → (∀ j ∈ jx, j ∉ ([0, 1, 2, 3, 4, 5, 6, 7, 8, 39, 40, 41, 42, 43, 44, 45, 46, 47, 48, 49, 50, 51, 52] : List Nat)) → va_P D vwCl g_ H → va_P D vwCl g_ H1 := fun g_ jx h1 h2 h3 h4 => keepG (wc := ho a C ++ (bw a 1 k F E ++ (tu a k Y Nt Sl Mt Ch))) ha [0, 1, 2, 3, 4, 5, 6, 7, 8, 39, 40, 41, 42, 43, 44, 45, 46, 47, 48, 49, 50, 51, 52] jx rfl h1 (by decide) h2 h3 h4 hfr
  have p2 := kp _ [9, 10, 11, 12, 13, 14, 15, 16] rfl (by decide) (by decide) p2
  have p3 := kp _ [17] rfl (by decide) (by decide) p3
  have p4 := kp _ [18, 19, 20, 21, 22, 23, 24, 25] rfl (by decide) (by decide) p4
  have p5 := kp _ [26, 27, 28, 29, 30, 31, 32, 33] rfl (by decide) (by decide) p5
  have p6 := kp _ [34] rfl (by decide) (by decide) p6
  have p7 := kp _ [35, 36] rfl (by decide) (by decide) p7
  have p8 := kp _ [37, 38] rfl (by decide) (by decide) p8
  have p10 := kp _ [53] rfl (by decide) (by decide) p10
  have pm := keepX (wc := ho a C ++ (bw a 1 k F E ++ (tu a k Y Nt Sl Mt Ch))) (g := mw b k I J G) hab [0, 1, 2, 3, 4, 5, 6, 7, 8, 39, 40, 41, 42, 43, 44, 45, 46, 47, 48, 49, 50, 51, 52] [0, 1, 2, 3, 4, 5, 6, 7, 8, 9, 10, 11, 12] rfl rfl (by decide) (by decide) pm hfr
  refine lv_aload_n hz.1 hz.2.1 dL_law_736 rfl (lv_at hl 2 rfl) ?_
  refine wrV (A := lA s_) (As := []) (rest := [.int (oI (sRet (G 0)))]) hz okYT (c6_retune l_ D k b I J G  hB.1) (cwV 0 hz.2.2.2.2 gL_law_X6_retune rfl rfl rfl (by decide +kernel) ⟨Nat.le_of_ble_eq_true rfl, Nat.le_of_ble_eq_true rfl⟩) hK trivial pm (D_ix hbk [0, 1, 2, 3, 4, 5, 6, 7, 8, 9, 10, 11, 12] rfl (by decide) (by decide)) hS 0 6 rfl rfl rfl rfl hl.1 rfl (Nat.le_of_ble_eq_true rfl) dL_law_737 ⟨Nat.le_of_ble_eq_true rfl, Nat.le_of_ble_eq_true rfl⟩ (fun r u H1 locs hp hP1 hS hfr => ?_)
  obtain ⟨v4, v5, v6, v7, v8⟩ := u
  obtain rfl : r = oI (sRet (G 0)) := hp
  have pm := hP1
  have pc_ : CPs D k a C F E Fd Ed Fp Ep Fq Eg K X ((G 9)) Z S Rr ((nset Y 0 (kSg (G 0) (G 0 0 - 1)))) ((ccpy Nt (kNb (G 0)) (G 0 0 - 1))) ((ccpy Sl (kSk (G 0)) (G 0 0 - 1))) ((ccpy Mt (kMts (G 0)) (G 0 0 - 1))) U1 Q H1 := CPs.kept ⟨p0, p1, p2, p3, p4, p5, p6, p7, p8, p9, p10⟩ hba hfr
  obtain ⟨p0, p1, p2, p3, p4, p5, p6, p7, p8, p9, p10⟩ := pc_
  refine cmpE (tgt := 1063) hz (rfl) dL_law_740 (by decide) ?_
  exact hk _ _ ⟨C, F, E, Fd, Ed, Fp, Ep, Fq, Eg, K, X, (G 9), Z, S, Rr, (nset Y 0 (kSg (G 0) (G 0 0 - 1))), (ccpy Nt (kNb (G 0)) (G 0 0 - 1)), (ccpy Sl (kSk (G 0)) (G 0 0 - 1)), (ccpy Mt (kMts (G 0)) (G 0 0 - 1)), U1, Q, I, J, (gset (gset (gset (gset (gset G 4 v4) 5 v5) 6 v6) 7 v7) 8 v8), ⟨hB, hC, hT, hQ, hM, ⟨(learnt_ok hU).1, (learnt_ok hU).2.1, g3⟩⟩, ⟨p0, p1, p2, p3, p4, p5, p6, p7, p8, p9, p10⟩, pm⟩ hS ls hl

set_option maxHeartbeats 4000000 in
set_option maxRecDepth 100000 in
theorem law_slip {p_ : Program} {l_ : Launch} {e_ : Env} {s_ : State} {m_ : MethodId} {bl_ : List Frame} {me_ : Method} {c_ : Code} {D : va_G} {k : Nat → ClassId} {a b : Nat → Nat} {b0 L : Nat} {xs : Nat → Int32} {tS : Nat} {sk sv : Nat → Nat} {i : Nat} (E0 : LE p_ s_ m_ c_ D k a b b0 L xs tS sk sv) (hi : i + 6 ≤ L) (hk : LK p_ l_ e_ s_ m_ bl_ me_ c_ D k a b b0 i 1063) : LK p_ l_ e_ s_ m_ bl_ me_ c_ D k a b b0 i 745 := by
  obtain ⟨hz, hX, hbl, hK, hy, ha, hbk, hab, hL⟩ := E0
  have hba : ∀ i j, i < 13 → j < 54 → b i ≠ a j := fun i j h1 h2 q => hab j i h2 h1 q.symm
  intro H locs hI hS ls hl
  obtain ⟨C, F, E, Fd, Ed, Fp, Ep, Fq, Eg, K, X, T, Z, S, Rr, Y, Nt, Sl, Mt, Ch, Q, I, J, G, ⟨hB, hC, hT, hQ, hM, hU⟩, ⟨p0, p1, p2, p3, p4, p5, p6, p7, p8, p9, p10⟩, pm⟩ := id hI
  obtain ⟨eX, hI2, rfl, hTb⟩ := hT
  have hT : LT X (G 9) I (G 9) := ⟨eX, hI2, rfl, hTb⟩
  have f0 := hB.1.n2
  have f1 := hB.1.n9
  have f4 := hB.1.pc
  have f5 := hB.1.wc
  obtain ⟨x1, hx1⟩ : ∃ z, xs (i + 1) = z := ⟨_, rfl⟩
  cases hb : (wIn x1 0 1)
  · refine lv_aload_n hz.1 hz.2.1 dL_law_745 rfl (lv_at hl 1 rfl) ?_
    refine lfe (n := 1) hz hX hbl hS hl (by omega) hL hx1 (by decide) dL_law_746 dL_law_747 dL_law_748 dL_law_749 dL_law_750 ?_
    refine wrV (A := lA s_) (As := [.int x1]) (rest := []) hz (okAm tS sk sv) (c5_slip_bad l_ D k a tS sk sv C F E ((G 0)) x1 hB.2 hB.1 hb) (cwV 1 hz.2.2.2.2 gL_law_X5_slip rfl rfl rfl (by decide +kernel) ⟨Nat.le_of_ble_eq_true rfl, Nat.le_of_ble_eq_true rfl⟩) hK hy (p0.app p1) (D_ix ha [0, 1, 2, 3, 4, 5, 6, 7, 8] rfl (by decide) (by decide)) hS 0 5 rfl rfl rfl rfl hl.1 rfl (Nat.le_of_ble_eq_true rfl) dL_law_751 ⟨Nat.le_of_ble_eq_true rfl, Nat.le_of_ble_eq_true rfl⟩ (fun r u H1 locs hp hP1 hS hfr => ?_)
    obtain rfl : r = -10 := hp
    have p0 := hP1.left
    have hP1 := hP1.right
    have p1 := hP1
    have kp : ∀ (g_ : va_W) (jx : List Nat), g_.map (fun q => q.1) = jx.map a → (∀ j ∈ jx, j < 54) → (∀ j ∈ jx, j ∉ ([0, 1, 2, 3, 4, 5, 6, 7, 8] : List Nat)) → va_P D vwCl g_ H → va_P D vwCl g_ H1 := fun g_ jx h1 h2 h3 h4 => keepG (wc := ho a C ++ (bw a 1 k F E)) ha [0, 1, 2, 3, 4, 5, 6, 7, 8] jx rfl h1 (by decide) h2 h3 h4 hfr
    have p2 := kp _ [9, 10, 11, 12, 13, 14, 15, 16] rfl (by decide) (by decide) p2
    have p3 := kp _ [17] rfl (by decide) (by decide) p3
    have p4 := kp _ [18, 19, 20, 21, 22, 23, 24, 25] rfl (by decide) (by decide) p4
    have p5 := kp _ [26, 27, 28, 29, 30, 31, 32, 33] rfl (by decide) (by decide) p5
    have p6 := kp _ [34] rfl (by decide) (by decide) p6
    have p7 := kp _ [35, 36] rfl (by decide) (by decide) p7
    have p8 := kp _ [37, 38] rfl (by decide) (by decide) p8
    have p9 := kp _ [39, 40, 41, 42, 43, 44, 45, 46, 47, 48, 49, 50, 51, 52] rfl (by decide) (by decide) p9
    have p10 := kp _ [53] rfl (by decide) (by decide) p10
    have pm := keepX (wc := ho a C ++ (bw a 1 k F E)) (g := mw b k I J G) hab [0, 1, 2, 3, 4, 5, 6, 7, 8] [0, 1, 2, 3, 4, 5, 6, 7, 8, 9, 10, 11, 12] rfl rfl (by decide) (by decide) pm hfr
    refine lv_aload_n hz.1 hz.2.1 dL_law_754 rfl (lv_at hl 2 rfl) ?_
    refine lfe (n := 1) hz hX hbl hS hl (by omega) hL hx1 (by decide) dL_law_755 dL_law_756 dL_law_757 dL_law_758 dL_law_759 ?_
    refine wrV (A := lA s_) (As := [.int x1]) (rest := [.int (-10)]) hz okYT (c6_slip_bad l_ D k b I J G x1 hb) (cwV 1 hz.2.2.2.2 gL_law_X6_slip rfl rfl rfl (by decide +kernel) ⟨Nat.le_of_ble_eq_true rfl, Nat.le_of_ble_eq_true rfl⟩) hK trivial pm (D_ix hbk [0, 1, 2, 3, 4, 5, 6, 7, 8, 9, 10, 11, 12] rfl (by decide) (by decide)) hS 0 6 rfl rfl rfl rfl hl.1 rfl (Nat.le_of_ble_eq_true rfl) dL_law_760 ⟨Nat.le_of_ble_eq_true rfl, Nat.le_of_ble_eq_true rfl⟩ (fun r u H1 locs hp hP1 hS hfr => ?_)
    obtain rfl : r = -10 := hp
    have pm := hP1
    have pc_ : CPs D k a (nset C 0 (C 0 + 1)) F E Fd Ed Fp Ep Fq Eg K X ((G 9)) Z S Rr Y Nt Sl Mt Ch Q H1 := CPs.kept ⟨p0, p1, p2, p3, p4, p5, p6, p7, p8, p9, p10⟩ hba hfr
    obtain ⟨p0, p1, p2, p3, p4, p5, p6, p7, p8, p9, p10⟩ := pc_
    refine cmpE (tgt := 1063) hz (rfl) dL_law_763 (by decide) ?_
    exact hk _ _ ⟨nset C 0 (C 0 + 1), F, E, Fd, Ed, Fp, Ep, Fq, Eg, K, X, (G 9), Z, S, Rr, Y, Nt, Sl, Mt, Ch, Q, I, J, gset G 3 (sRef (G 3) 0), ⟨hB, hC.s0, hT, hQ, hM, hU⟩, ⟨p0, p1, p2, p3, p4, p5, p6, p7, p8, p9, p10⟩, pm⟩ hS ls hl
  · have hb1 := hb
    obtain ⟨wh, ⟨whl, whh⟩, rfl⟩ := wIn_t (by omega) (by omega) hb1
    refine lv_aload_n hz.1 hz.2.1 dL_law_745 rfl (lv_at hl 1 rfl) ?_
    refine lfe (n := 1) hz hX hbl hS hl (by omega) hL hx1 (by decide) dL_law_746 dL_law_747 dL_law_748 dL_law_749 dL_law_750 ?_
    refine wrV (A := lA s_) (As := [.int (nI wh)]) (rest := []) hz (okAm tS sk sv) (c5_slip_ok l_ D k a tS sk sv C F E Z S Rr ((G 0)) wh hB.2 hB.1 whh) (cwV 1 hz.2.2.2.2 gL_law_X5_slip rfl rfl rfl (by decide +kernel) ⟨Nat.le_of_ble_eq_true rfl, Nat.le_of_ble_eq_true rfl⟩) hK hy (p0.app (p1.app p8)) (D_ix ha [0, 1, 2, 3, 4, 5, 6, 7, 8, 37, 38] rfl (by decide) (by decide)) hS 0 5 rfl rfl rfl rfl hl.1 rfl (Nat.le_of_ble_eq_true rfl) dL_law_751 ⟨Nat.le_of_ble_eq_true rfl, Nat.le_of_ble_eq_true rfl⟩ (fun r u H1 locs hp hP1 hS hfr => ?_)
    obtain rfl : r = sSlipA (G 0) wh := hp
    have p0 := hP1.left
    have hP1 := hP1.right
    have p1 := hP1.left
    have hP1 := hP1.right
    have p8 := hP1
    have kp : ∀ (g_ : va_W) (jx : List Nat), g_.map (fun q => q.1) = jx.map a → (∀ j ∈ jx, j < 54) → (∀ j ∈ jx, j ∉ ([0, 1, 2, 3, 4, 5, 6, 7, 8, 37, 38] : List Nat)) → va_P D vwCl g_ H → va_P D vwCl g_ H1 := fun g_ jx h1 h2 h3 h4 => keepG (wc := ho a C ++ (bw a 1 k F E ++ (ww a k Z S Rr))) ha [0, 1, 2, 3, 4, 5, 6, 7, 8, 37, 38] jx rfl h1 (by decide) h2 h3 h4 hfr
    have p2 := kp _ [9, 10, 11, 12, 13, 14, 15, 16] rfl (by decide) (by decide) p2
    have p3 := kp _ [17] rfl (by decide) (by decide) p3
    have p4 := kp _ [18, 19, 20, 21, 22, 23, 24, 25] rfl (by decide) (by decide) p4
    have p5 := kp _ [26, 27, 28, 29, 30, 31, 32, 33] rfl (by decide) (by decide) p5
    have p6 := kp _ [34] rfl (by decide) (by decide) p6
    have p7 := kp _ [35, 36] rfl (by decide) (by decide) p7
    have p9 := kp _ [39, 40, 41, 42, 43, 44, 45, 46, 47, 48, 49, 50, 51, 52] rfl (by decide) (by decide) p9
    have p10 := kp _ [53] rfl (by decide) (by decide) p10
    have pm := keepX (wc := ho a C ++ (bw a 1 k F E ++ (ww a k Z S Rr))) (g := mw b k I J G) hab [0, 1, 2, 3, 4, 5, 6, 7, 8, 37, 38] [0, 1, 2, 3, 4, 5, 6, 7, 8, 9, 10, 11, 12] rfl rfl (by decide) (by decide) pm hfr
    refine lv_aload_n hz.1 hz.2.1 dL_law_754 rfl (lv_at hl 2 rfl) ?_
    refine lfe (n := 1) hz hX hbl hS hl (by omega) hL hx1 (by decide) dL_law_755 dL_law_756 dL_law_757 dL_law_758 dL_law_759 ?_
    refine rdV (A := lA s_) (As := [.int (nI wh)]) (rest := [.int (sSlipA (G 0) wh)]) hz okYT (c6_slip_ok l_ D k b I J G wh hB.1 whh) (cwV 1 hz.2.2.2.2 gL_law_X6_slip rfl rfl rfl (by decide +kernel) ⟨Nat.le_of_ble_eq_true rfl, Nat.le_of_ble_eq_true rfl⟩) hK trivial pm (D_ix hbk [0, 1, 2, 3, 4, 5, 6, 7, 8, 9, 10, 11, 12] rfl (by decide) (by decide)) hS 0 6 rfl rfl rfl rfl hl.1 rfl (Nat.le_of_ble_eq_true rfl) dL_law_760 ⟨Nat.le_of_ble_eq_true rfl, Nat.le_of_ble_eq_true rfl⟩ ?_
    refine cmpE (tgt := 1063) hz (rfl) dL_law_763 (by decide) ?_
    exact hk _ _ ⟨C, F, E, Fd, Ed, Fp, Ep, Fq, Eg, K, X, (G 9), xset (xset Z 0 (gI (sSlip (G 0)))) 1 (oI (sSlip (G 0)).2), S, Rr, Y, Nt, Sl, Mt, Ch, Q, I, J, G, ⟨hB, hC, hT, hQ, hM, hU⟩, ⟨p0, p1, p2, p3, p4, p5, p6, p7, p8, p9, p10⟩, pm⟩ hS ls hl

set_option maxHeartbeats 4000000 in
set_option maxRecDepth 100000 in
theorem law_lot {p_ : Program} {l_ : Launch} {e_ : Env} {s_ : State} {m_ : MethodId} {bl_ : List Frame} {me_ : Method} {c_ : Code} {D : va_G} {k : Nat → ClassId} {a b : Nat → Nat} {b0 L : Nat} {xs : Nat → Int32} {tS : Nat} {sk sv : Nat → Nat} {i : Nat} (E0 : LE p_ s_ m_ c_ D k a b b0 L xs tS sk sv) (hi : i + 6 ≤ L) (hk : LK p_ l_ e_ s_ m_ bl_ me_ c_ D k a b b0 i 1063) : LK p_ l_ e_ s_ m_ bl_ me_ c_ D k a b b0 i 768 := by
  obtain ⟨hz, hX, hbl, hK, hy, ha, hbk, hab, hL⟩ := E0
  have hba : ∀ i j, i < 13 → j < 54 → b i ≠ a j := fun i j h1 h2 q => hab j i h2 h1 q.symm
  intro H locs hI hS ls hl
  obtain ⟨C, F, E, Fd, Ed, Fp, Ep, Fq, Eg, K, X, T, Z, S, Rr, Y, Nt, Sl, Mt, Ch, Q, I, J, G, ⟨hB, hC, hT, hQ, hM, hU⟩, ⟨p0, p1, p2, p3, p4, p5, p6, p7, p8, p9, p10⟩, pm⟩ := id hI
  obtain ⟨eX, hI2, rfl, hTb⟩ := hT
  have hT : LT X (G 9) I (G 9) := ⟨eX, hI2, rfl, hTb⟩
  have f0 := hB.1.n2
  have f1 := hB.1.n9
  have f4 := hB.1.pc
  have f5 := hB.1.wc
  obtain ⟨x1, hx1⟩ : ∃ z, xs (i + 1) = z := ⟨_, rfl⟩
  obtain ⟨x2, hx2⟩ : ∃ z, xs (i + 2) = z := ⟨_, rfl⟩
  obtain ⟨x3, hx3⟩ : ∃ z, xs (i + 3) = z := ⟨_, rfl⟩
  cases hb : (wIn x1 1 (G 0 0) && wIn x2 0 (G 0 0 - 1 - 1) && wIn x3 0 3)
  · refine lv_aload_n hz.1 hz.2.1 dL_law_768 rfl (lv_at hl 1 rfl) ?_
    refine lfe (n := 1) hz hX hbl hS hl (by omega) hL hx1 (by decide) dL_law_769 dL_law_770 dL_law_771 dL_law_772 dL_law_773 ?_
    refine lfe (n := 2) hz hX hbl hS hl (by omega) hL hx2 (by decide) dL_law_774 dL_law_775 dL_law_776 dL_law_777 dL_law_778 ?_
    refine lfe (n := 3) hz hX hbl hS hl (by omega) hL hx3 (by decide) dL_law_779 dL_law_780 dL_law_781 dL_law_782 dL_law_783 ?_
    refine wrV (A := lA s_) (As := [.int x1, .int x2, .int x3]) (rest := []) hz (okAm tS sk sv) (c5_lot_bad l_ D k a tS sk sv C F E ((G 0)) x1 x2 x3 hB.2 hB.1 hb) (cwV 3 hz.2.2.2.2 gL_law_X5_lot rfl rfl rfl (by decide +kernel) ⟨Nat.le_of_ble_eq_true rfl, Nat.le_of_ble_eq_true rfl⟩) hK hy (p0.app p1) (D_ix ha [0, 1, 2, 3, 4, 5, 6, 7, 8] rfl (by decide) (by decide)) hS 0 5 rfl rfl rfl rfl hl.1 rfl (Nat.le_of_ble_eq_true rfl) dL_law_784 ⟨Nat.le_of_ble_eq_true rfl, Nat.le_of_ble_eq_true rfl⟩ (fun r u H1 locs hp hP1 hS hfr => ?_)
    obtain rfl : r = -2 := hp
    have p0 := hP1.left
    have hP1 := hP1.right
    have p1 := hP1
    have kp : ∀ (g_ : va_W) (jx : List Nat), g_.map (fun q => q.1) = jx.map a → (∀ j ∈ jx, j < 54) → (∀ j ∈ jx, j ∉ ([0, 1, 2, 3, 4, 5, 6, 7, 8] : List Nat)) → va_P D vwCl g_ H → va_P D vwCl g_ H1 := fun g_ jx h1 h2 h3 h4 => keepG (wc := ho a C ++ (bw a 1 k F E)) ha [0, 1, 2, 3, 4, 5, 6, 7, 8] jx rfl h1 (by decide) h2 h3 h4 hfr
    have p2 := kp _ [9, 10, 11, 12, 13, 14, 15, 16] rfl (by decide) (by decide) p2
    have p3 := kp _ [17] rfl (by decide) (by decide) p3
    have p4 := kp _ [18, 19, 20, 21, 22, 23, 24, 25] rfl (by decide) (by decide) p4
    have p5 := kp _ [26, 27, 28, 29, 30, 31, 32, 33] rfl (by decide) (by decide) p5
    have p6 := kp _ [34] rfl (by decide) (by decide) p6
    have p7 := kp _ [35, 36] rfl (by decide) (by decide) p7
    have p8 := kp _ [37, 38] rfl (by decide) (by decide) p8
    have p9 := kp _ [39, 40, 41, 42, 43, 44, 45, 46, 47, 48, 49, 50, 51, 52] rfl (by decide) (by decide) p9
    have p10 := kp _ [53] rfl (by decide) (by decide) p10
    have pm := keepX (wc := ho a C ++ (bw a 1 k F E)) (g := mw b k I J G) hab [0, 1, 2, 3, 4, 5, 6, 7, 8] [0, 1, 2, 3, 4, 5, 6, 7, 8, 9, 10, 11, 12] rfl rfl (by decide) (by decide) pm hfr
    refine lv_aload_n hz.1 hz.2.1 dL_law_787 rfl (lv_at hl 2 rfl) ?_
    refine lfe (n := 1) hz hX hbl hS hl (by omega) hL hx1 (by decide) dL_law_788 dL_law_789 dL_law_790 dL_law_791 dL_law_792 ?_
    refine lfe (n := 2) hz hX hbl hS hl (by omega) hL hx2 (by decide) dL_law_793 dL_law_794 dL_law_795 dL_law_796 dL_law_797 ?_
    refine lfe (n := 3) hz hX hbl hS hl (by omega) hL hx3 (by decide) dL_law_798 dL_law_799 dL_law_800 dL_law_801 dL_law_802 ?_
    refine wrV (A := lA s_) (As := [.int x1, .int x2, .int x3]) (rest := [.int (-2)]) hz okYT (c6_lot_bad l_ D k b I J G x1 x2 x3 hB.1 hb) (cwV 3 hz.2.2.2.2 gL_law_X6_lot rfl rfl rfl (by decide +kernel) ⟨Nat.le_of_ble_eq_true rfl, Nat.le_of_ble_eq_true rfl⟩) hK trivial pm (D_ix hbk [0, 1, 2, 3, 4, 5, 6, 7, 8, 9, 10, 11, 12] rfl (by decide) (by decide)) hS 0 6 rfl rfl rfl rfl hl.1 rfl (Nat.le_of_ble_eq_true rfl) dL_law_803 ⟨Nat.le_of_ble_eq_true rfl, Nat.le_of_ble_eq_true rfl⟩ (fun r u H1 locs hp hP1 hS hfr => ?_)
    obtain rfl : r = -2 := hp
    have pm := hP1
    have pc_ : CPs D k a (nset C 0 (C 0 + 1)) F E Fd Ed Fp Ep Fq Eg K X ((G 9)) Z S Rr Y Nt Sl Mt Ch Q H1 := CPs.kept ⟨p0, p1, p2, p3, p4, p5, p6, p7, p8, p9, p10⟩ hba hfr
    obtain ⟨p0, p1, p2, p3, p4, p5, p6, p7, p8, p9, p10⟩ := pc_
    refine cmpE (tgt := 1063) hz (rfl) dL_law_806 (by decide) ?_
    exact hk _ _ ⟨nset C 0 (C 0 + 1), F, E, Fd, Ed, Fp, Ep, Fq, Eg, K, X, (G 9), Z, S, Rr, Y, Nt, Sl, Mt, Ch, Q, I, J, gset G 3 (sRef (G 3) 0), ⟨hB, hC.s0, hT, hQ, hM, hU⟩, ⟨p0, p1, p2, p3, p4, p5, p6, p7, p8, p9, p10⟩, pm⟩ hS ls hl
  · simp only [Bool.and_eq_true] at hb
    obtain ⟨⟨hb1, hb2⟩, hb3⟩ := hb
    obtain ⟨kk, ⟨kkl, kkh⟩, rfl⟩ := wIn_t (by omega) (by omega) hb1
    obtain ⟨w, ⟨wl, wh⟩, rfl⟩ := wIn_t (by omega) (by omega) hb2
    obtain ⟨st, ⟨stl, sth⟩, rfl⟩ := wIn_t (by omega) (by omega) hb3
    refine lv_aload_n hz.1 hz.2.1 dL_law_768 rfl (lv_at hl 1 rfl) ?_
    refine lfe (n := 1) hz hX hbl hS hl (by omega) hL hx1 (by decide) dL_law_769 dL_law_770 dL_law_771 dL_law_772 dL_law_773 ?_
    refine lfe (n := 2) hz hX hbl hS hl (by omega) hL hx2 (by decide) dL_law_774 dL_law_775 dL_law_776 dL_law_777 dL_law_778 ?_
    refine lfe (n := 3) hz hX hbl hS hl (by omega) hL hx3 (by decide) dL_law_779 dL_law_780 dL_law_781 dL_law_782 dL_law_783 ?_
    refine wrV (A := lA s_) (As := [.int (nI kk), .int (nI w), .int (nI st)]) (rest := []) hz (okAm tS sk sv) (c5_lot_ok l_ D k a tS sk sv C F E Q ((G 0)) kk w st hB.2 hB.1 kkl kkh (by omega) sth) (cwV 3 hz.2.2.2.2 gL_law_X5_lot rfl rfl rfl (by decide +kernel) ⟨Nat.le_of_ble_eq_true rfl, Nat.le_of_ble_eq_true rfl⟩) hK hy (p0.app (p1.app p10)) (D_ix ha [0, 1, 2, 3, 4, 5, 6, 7, 8, 53] rfl (by decide) (by decide)) hS 0 5 rfl rfl rfl rfl hl.1 rfl (Nat.le_of_ble_eq_true rfl) dL_law_784 ⟨Nat.le_of_ble_eq_true rfl, Nat.le_of_ble_eq_true rfl⟩ (fun r u H1 locs hp hP1 hS hfr => ?_)
    obtain rfl : r = nI 1 := hp
    have p0 := hP1.left
    have hP1 := hP1.right
    have p1 := hP1.left
    have hP1 := hP1.right
    have p10 := hP1
    have kp : ∀ (g_ : va_W) (jx : List Nat), g_.map (fun q => q.1) = jx.map a → (∀ j ∈ jx, j < 54) → (∀ j ∈ jx, j ∉ ([0, 1, 2, 3, 4, 5, 6, 7, 8, 53] : List Nat)) → va_P D vwCl g_ H → va_P D vwCl g_ H1 := fun g_ jx h1 h2 h3 h4 => keepG (wc := ho a C ++ (bw a 1 k F E ++ (qw a Q))) ha [0, 1, 2, 3, 4, 5, 6, 7, 8, 53] jx rfl h1 (by decide) h2 h3 h4 hfr
    have p2 := kp _ [9, 10, 11, 12, 13, 14, 15, 16] rfl (by decide) (by decide) p2
    have p3 := kp _ [17] rfl (by decide) (by decide) p3
    have p4 := kp _ [18, 19, 20, 21, 22, 23, 24, 25] rfl (by decide) (by decide) p4
    have p5 := kp _ [26, 27, 28, 29, 30, 31, 32, 33] rfl (by decide) (by decide) p5
    have p6 := kp _ [34] rfl (by decide) (by decide) p6
    have p7 := kp _ [35, 36] rfl (by decide) (by decide) p7
    have p8 := kp _ [37, 38] rfl (by decide) (by decide) p8
    have p9 := kp _ [39, 40, 41, 42, 43, 44, 45, 46, 47, 48, 49, 50, 51, 52] rfl (by decide) (by decide) p9
    have pm := keepX (wc := ho a C ++ (bw a 1 k F E ++ (qw a Q))) (g := mw b k I J G) hab [0, 1, 2, 3, 4, 5, 6, 7, 8, 53] [0, 1, 2, 3, 4, 5, 6, 7, 8, 9, 10, 11, 12] rfl rfl (by decide) (by decide) pm hfr
    refine lv_aload_n hz.1 hz.2.1 dL_law_787 rfl (lv_at hl 2 rfl) ?_
    refine lfe (n := 1) hz hX hbl hS hl (by omega) hL hx1 (by decide) dL_law_788 dL_law_789 dL_law_790 dL_law_791 dL_law_792 ?_
    refine lfe (n := 2) hz hX hbl hS hl (by omega) hL hx2 (by decide) dL_law_793 dL_law_794 dL_law_795 dL_law_796 dL_law_797 ?_
    refine lfe (n := 3) hz hX hbl hS hl (by omega) hL hx3 (by decide) dL_law_798 dL_law_799 dL_law_800 dL_law_801 dL_law_802 ?_
    refine wrV (A := lA s_) (As := [.int (nI kk), .int (nI w), .int (nI st)]) (rest := [.int (nI 1)]) hz okYT (c6_lot_ok l_ D k b I J G kk w st hB.1 kkl kkh (by omega) sth) (cwV 3 hz.2.2.2.2 gL_law_X6_lot rfl rfl rfl (by decide +kernel) ⟨Nat.le_of_ble_eq_true rfl, Nat.le_of_ble_eq_true rfl⟩) hK trivial pm (D_ix hbk [0, 1, 2, 3, 4, 5, 6, 7, 8, 9, 10, 11, 12] rfl (by decide) (by decide)) hS 0 6 rfl rfl rfl rfl hl.1 rfl (Nat.le_of_ble_eq_true rfl) dL_law_803 ⟨Nat.le_of_ble_eq_true rfl, Nat.le_of_ble_eq_true rfl⟩ (fun r u H1 locs hp hP1 hS hfr => ?_)
    obtain rfl : r = nI 1 := hp
    have pm := hP1
    have pc_ : CPs D k a C F E Fd Ed Fp Ep Fq Eg K X ((G 9)) Z S Rr Y Nt Sl Mt Ch (nset (nset Q 0 ((sCh (sDfN (G 0) w st) kk) / Nat.gcd (sCh (sDfN (G 0) w st) kk) (sCh ((G 0) 0) kk))) 1 ((sCh ((G 0) 0) kk) / Nat.gcd (sCh (sDfN (G 0) w st) kk) (sCh ((G 0) 0) kk))) H1 := CPs.kept ⟨p0, p1, p2, p3, p4, p5, p6, p7, p8, p9, p10⟩ hba hfr
    obtain ⟨p0, p1, p2, p3, p4, p5, p6, p7, p8, p9, p10⟩ := pc_
    refine cmpE (tgt := 1063) hz (rfl) dL_law_806 (by decide) ?_
    exact hk _ _ ⟨C, F, E, Fd, Ed, Fp, Ep, Fq, Eg, K, X, (G 9), Z, S, Rr, Y, Nt, Sl, Mt, Ch, nset (nset Q 0 ((sCh (sDfN (G 0) w st) kk) / Nat.gcd (sCh (sDfN (G 0) w st) kk) (sCh ((G 0) 0) kk))) 1 ((sCh ((G 0) 0) kk) / Nat.gcd (sCh (sDfN (G 0) w st) kk) (sCh ((G 0) 0) kk)), I, nset (nset J 0 ((sCh (sDfN (G 0) w st) kk) / Nat.gcd (sCh (sDfN (G 0) w st) kk) (sCh (G 0 0) kk))) 1 ((sCh (G 0 0) kk) / Nat.gcd (sCh (sDfN (G 0) w st) kk) (sCh (G 0 0) kk)), G, ⟨hB, hC, hT, ⟨rfl, rfl⟩, hM, hU⟩, ⟨p0, p1, p2, p3, p4, p5, p6, p7, p8, p9, p10⟩, pm⟩ hS ls hl
