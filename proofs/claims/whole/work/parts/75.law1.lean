set_option maxHeartbeats 4000000 in
set_option maxRecDepth 100000 in
theorem law_posts {p_ : Program} {l_ : Launch} {e_ : Env} {s_ : State} {m_ : MethodId} {bl_ : List Frame} {me_ : Method} {c_ : Code} {D : va_G} {k : Nat → ClassId} {a b : Nat → Nat} {b0 L : Nat} {xs : Nat → Int32} {tS : Nat} {sk sv : Nat → Nat} {i : Nat} (E0 : LE p_ s_ m_ c_ D k a b b0 L xs tS sk sv) (hi : i + 6 ≤ L) (hk : LK p_ l_ e_ s_ m_ bl_ me_ c_ D k a b b0 i 1063) : LK p_ l_ e_ s_ m_ bl_ me_ c_ D k a b b0 i 172 := by
  obtain ⟨hz, hX, hbl, hK, hy, ha, hbk, hab, hL⟩ := E0
  have hba : ∀ i j, i < 13 → j < 54 → b i ≠ a j := fun i j h1 h2 q => hab j i h2 h1 q.symm
  intro H locs hI hS ls hl
  obtain ⟨C, F, E, Fd, Ed, Fp, Ep, Fq, Eg, K, X, T, Z, S, Rr, Y, Nt, Sl, Mt, Ch, Q, I, J, G, ⟨hB, hC, hT, hQ, hM, hU⟩, ⟨p0, p1, p2, p3, p4, p5, p6, p7, p8, p9, p10⟩, pm⟩ := id hI
  obtain ⟨eX, hI2, rfl, hTb⟩ := hT
  have hT : LT X (G 9) I (G 9) := ⟨eX, hI2, rfl, hTb⟩
  have f0 := hB.1.n2
  have f1 := hB.1.n9
  have f4 := hB.1.pc
  have f5 := hB.1.wc
  obtain ⟨x1, hx1⟩ : ∃ z, xs (i + 1) = z := ⟨_, rfl⟩
  cases hb : (wIn x1 2 9)
  · refine lv_aload_n hz.1 hz.2.1 dL_law_172 rfl (lv_at hl 1 rfl) ?_
    refine lfe (n := 1) hz hX hbl hS hl (by omega) hL hx1 (by decide) dL_law_173 dL_law_174 dL_law_175 dL_law_176 dL_law_177 ?_
    refine wrV (A := lA s_) (As := [.int x1]) (rest := []) hz (okAm tS sk sv) (c5_posts_bad l_ D k a tS sk sv C F E ((G 0)) x1 hB.2 hB.1 hb) (cwV 1 hz.2.2.2.2 gL_law_X5_posts rfl rfl rfl (by decide +kernel) ⟨Nat.le_of_ble_eq_true rfl, Nat.le_of_ble_eq_true rfl⟩) hK hy (p0.app p1) (D_ix ha [0, 1, 2, 3, 4, 5, 6, 7, 8] rfl (by decide) (by decide)) hS 0 5 rfl rfl rfl rfl hl.1 rfl (Nat.le_of_ble_eq_true rfl) dL_law_178 ⟨Nat.le_of_ble_eq_true rfl, Nat.le_of_ble_eq_true rfl⟩ (fun r u H1 locs hp hP1 hS hfr => ?_)
    obtain rfl : r = -2 := hp
    have p0 := hP1.left
    have hP1 := hP1.right
    have p1 := hP1
    have kp : ∀ (g_ : va_W) (jx : List Nat), g_.map (fun q => q.1) = jx.map a → (∀ j ∈ jx, j < 54) → (∀ j ∈ jx, j ∉ ([0, 1, 2, 3, 4, 5, 6, 7, 8] : List Nat)) → va_P D vwCl g_ H → va_P D vwCl g_ H1 := fun g_ jx h1 h2 h3 h4 => keepG (wc := ho a C ++ (bw a 1 k F E)) ha [0, 1, 2, 3, 4, 5, 6, 7, 8] jx rfl h1 (by decide) h2 h3 h4 hfr
    have p2 := kp _ [9, 10, 11, 12, 13, 14, 15, 16] rfl (by decide) (by decide) p2
    have p3 := kp _ [17] rfl (by decide) (by decide) p3
    have p4 := kp _ [18, 19, 20, 21, 22, 23, 24, 25] rfl (by decide) (by decide) p4
    have p5 := kp _ [26, 27, 28, 29, 30, 31, 32, 33] rfl (by decide) (by decide) p5
    have p6 := kp _ [34] rfl (by decide) (by decide) p6
    have p7 := kp _ [35, 36] rfl (by decide) (by decide) p7
    have p8 := kp _ [37, 38] rfl (by decide) (by decide) p8
    have p9 := kp _ [39, 40, 41, 42, 43, 44, 45, 46, 47, 48, 49, 50, 51, 52] rfl (by decide) (by decide) p9
    have p10 := kp _ [53] rfl (by decide) (by decide) p10
    have pm := keepX (wc := ho a C ++ (bw a 1 k F E)) (g := mw b k I J G) hab [0, 1, 2, 3, 4, 5, 6, 7, 8] [0, 1, 2, 3, 4, 5, 6, 7, 8, 9, 10, 11, 12] rfl rfl (by decide) (by decide) pm hfr
    refine lv_aload_n hz.1 hz.2.1 dL_law_181 rfl (lv_at hl 2 rfl) ?_
    refine lfe (n := 1) hz hX hbl hS hl (by omega) hL hx1 (by decide) dL_law_182 dL_law_183 dL_law_184 dL_law_185 dL_law_186 ?_
    refine wrV (A := lA s_) (As := [.int x1]) (rest := [.int (-2)]) hz okYT (c6_posts_bad l_ D k b I J G x1 hb) (cwV 1 hz.2.2.2.2 gL_law_X6_posts rfl rfl rfl (by decide +kernel) ⟨Nat.le_of_ble_eq_true rfl, Nat.le_of_ble_eq_true rfl⟩) hK trivial pm (D_ix hbk [0, 1, 2, 3, 4, 5, 6, 7, 8, 9, 10, 11, 12] rfl (by decide) (by decide)) hS 0 6 rfl rfl rfl rfl hl.1 rfl (Nat.le_of_ble_eq_true rfl) dL_law_187 ⟨Nat.le_of_ble_eq_true rfl, Nat.le_of_ble_eq_true rfl⟩ (fun r u H1 locs hp hP1 hS hfr => ?_)
    obtain rfl : r = -2 := hp
    have pm := hP1
    have pc_ : CPs D k a (nset C 0 (C 0 + 1)) F E Fd Ed Fp Ep Fq Eg K X ((G 9)) Z S Rr Y Nt Sl Mt Ch Q H1 := CPs.kept ⟨p0, p1, p2, p3, p4, p5, p6, p7, p8, p9, p10⟩ hba hfr
    obtain ⟨p0, p1, p2, p3, p4, p5, p6, p7, p8, p9, p10⟩ := pc_
    refine cmpE (tgt := 1063) hz (rfl) dL_law_190 (by decide) ?_
    exact hk _ _ ⟨nset C 0 (C 0 + 1), F, E, Fd, Ed, Fp, Ep, Fq, Eg, K, X, (G 9), Z, S, Rr, Y, Nt, Sl, Mt, Ch, Q, I, J, gset G 3 (sRef (G 3) 0), ⟨hB, hC.s0, hT, hQ, hM, hU⟩, ⟨p0, p1, p2, p3, p4, p5, p6, p7, p8, p9, p10⟩, pm⟩ hS ls hl
  · have hb1 := hb
    obtain ⟨n, ⟨nl, nh⟩, rfl⟩ := wIn_t (by omega) (by omega) hb1
    refine lv_aload_n hz.1 hz.2.1 dL_law_172 rfl (lv_at hl 1 rfl) ?_
    refine lfe (n := 1) hz hX hbl hS hl (by omega) hL hx1 (by decide) dL_law_173 dL_law_174 dL_law_175 dL_law_176 dL_law_177 ?_
    refine wrV (A := lA s_) (As := [.int (nI n)]) (rest := []) hz (okAm tS sk sv) (c5_posts_ok l_ D k a tS sk sv C F E ((G 0)) n hB.2 hB.1 nl nh) (cwV 1 hz.2.2.2.2 gL_law_X5_posts rfl rfl rfl (by decide +kernel) ⟨Nat.le_of_ble_eq_true rfl, Nat.le_of_ble_eq_true rfl⟩) hK hy (p0.app p1) (D_ix ha [0, 1, 2, 3, 4, 5, 6, 7, 8] rfl (by decide) (by decide)) hS 0 5 rfl rfl rfl rfl hl.1 rfl (Nat.le_of_ble_eq_true rfl) dL_law_178 ⟨Nat.le_of_ble_eq_true rfl, Nat.le_of_ble_eq_true rfl⟩ (fun r u H1 locs hp hP1 hS hfr => ?_)
    obtain rfl : r = nI ((G 0) 0) := hp
    have p0 := hP1.left
    have hP1 := hP1.right
    have p1 := hP1
    have kp : ∀ (g_ : va_W) (jx : List Nat), g_.map (fun q => q.1) = jx.map a → (∀ j ∈ jx, j < 54) → (∀ j ∈ jx, j ∉ ([0, 1, 2, 3, 4, 5, 6, 7, 8] : List Nat)) → va_P D vwCl g_ H → va_P D vwCl g_ H1 := fun g_ jx h1 h2 h3 h4 => keepG (wc := ho a C ++ (bw a 1 k F E)) ha [0, 1, 2, 3, 4, 5, 6, 7, 8] jx rfl h1 (by decide) h2 h3 h4 hfr
    have p2 := kp _ [9, 10, 11, 12, 13, 14, 15, 16] rfl (by decide) (by decide) p2
    have p3 := kp _ [17] rfl (by decide) (by decide) p3
    have p4 := kp _ [18, 19, 20, 21, 22, 23, 24, 25] rfl (by decide) (by decide) p4
    have p5 := kp _ [26, 27, 28, 29, 30, 31, 32, 33] rfl (by decide) (by decide) p5
    have p6 := kp _ [34] rfl (by decide) (by decide) p6
    have p7 := kp _ [35, 36] rfl (by decide) (by decide) p7
    have p8 := kp _ [37, 38] rfl (by decide) (by decide) p8
    have p9 := kp _ [39, 40, 41, 42, 43, 44, 45, 46, 47, 48, 49, 50, 51, 52] rfl (by decide) (by decide) p9
    have p10 := kp _ [53] rfl (by decide) (by decide) p10
    have pm := keepX (wc := ho a C ++ (bw a 1 k F E)) (g := mw b k I J G) hab [0, 1, 2, 3, 4, 5, 6, 7, 8] [0, 1, 2, 3, 4, 5, 6, 7, 8, 9, 10, 11, 12] rfl rfl (by decide) (by decide) pm hfr
    refine lv_aload_n hz.1 hz.2.1 dL_law_181 rfl (lv_at hl 2 rfl) ?_
    refine lfe (n := 1) hz hX hbl hS hl (by omega) hL hx1 (by decide) dL_law_182 dL_law_183 dL_law_184 dL_law_185 dL_law_186 ?_
    refine wrV (A := lA s_) (As := [.int (nI n)]) (rest := [.int (nI ((G 0) 0))]) hz okYT (c6_posts_ok l_ D k b I J G n nl nh) (cwV 1 hz.2.2.2.2 gL_law_X6_posts rfl rfl rfl (by decide +kernel) ⟨Nat.le_of_ble_eq_true rfl, Nat.le_of_ble_eq_true rfl⟩) hK trivial pm (D_ix hbk [0, 1, 2, 3, 4, 5, 6, 7, 8, 9, 10, 11, 12] rfl (by decide) (by decide)) hS 0 6 rfl rfl rfl rfl hl.1 rfl (Nat.le_of_ble_eq_true rfl) dL_law_187 ⟨Nat.le_of_ble_eq_true rfl, Nat.le_of_ble_eq_true rfl⟩ (fun r u H1 locs hp hP1 hS hfr => ?_)
    obtain rfl : r = nI (G 0 0) := hp
    have pm := hP1
    have pc_ : CPs D k a C (nset (nset (nset (nset (nset F 0 n) 1 0) 2 0) 3 0) 4 0) (gset (gset E 0 (zfill (E 0) 8)) 1 (zfill (E 1) 8)) Fd Ed Fp Ep Fq Eg K X ((G 9)) Z S Rr Y Nt Sl Mt Ch Q H1 := CPs.kept ⟨p0, p1, p2, p3, p4, p5, p6, p7, p8, p9, p10⟩ hba hfr
    obtain ⟨p0, p1, p2, p3, p4, p5, p6, p7, p8, p9, p10⟩ := pc_
    refine cmpE (tgt := 1063) hz (rfl) dL_law_190 (by decide) ?_
    exact hk _ _ ⟨C, nset (nset (nset (nset (nset F 0 n) 1 0) 2 0) 3 0) 4 0, gset (gset E 0 (zfill (E 0) 8)) 1 (zfill (E 1) 8), Fd, Ed, Fp, Ep, Fq, Eg, K, X, (G 9), Z, S, Rr, Y, Nt, Sl, Mt, Ch, Q, I, J, gset G 0 (sBegin (G 0) n), ⟨⟨Wf.begin nl nh, Rb.begin _ _ _ _⟩, hC, hT, hQ, hM, hU⟩, ⟨p0, p1, p2, p3, p4, p5, p6, p7, p8, p9, p10⟩, pm⟩ hS ls hl

set_option maxHeartbeats 4000000 in
set_option maxRecDepth 100000 in
theorem law_wire {p_ : Program} {l_ : Launch} {e_ : Env} {s_ : State} {m_ : MethodId} {bl_ : List Frame} {me_ : Method} {c_ : Code} {D : va_G} {k : Nat → ClassId} {a b : Nat → Nat} {b0 L : Nat} {xs : Nat → Int32} {tS : Nat} {sk sv : Nat → Nat} {i : Nat} (E0 : LE p_ s_ m_ c_ D k a b b0 L xs tS sk sv) (hi : i + 6 ≤ L) (hk : LK p_ l_ e_ s_ m_ bl_ me_ c_ D k a b b0 i 1063) : LK p_ l_ e_ s_ m_ bl_ me_ c_ D k a b b0 i 195 := by
  obtain ⟨hz, hX, hbl, hK, hy, ha, hbk, hab, hL⟩ := E0
  have hba : ∀ i j, i < 13 → j < 54 → b i ≠ a j := fun i j h1 h2 q => hab j i h2 h1 q.symm
  intro H locs hI hS ls hl
  obtain ⟨C, F, E, Fd, Ed, Fp, Ep, Fq, Eg, K, X, T, Z, S, Rr, Y, Nt, Sl, Mt, Ch, Q, I, J, G, ⟨hB, hC, hT, hQ, hM, hU⟩, ⟨p0, p1, p2, p3, p4, p5, p6, p7, p8, p9, p10⟩, pm⟩ := id hI
  obtain ⟨eX, hI2, rfl, hTb⟩ := hT
  have hT : LT X (G 9) I (G 9) := ⟨eX, hI2, rfl, hTb⟩
  have f0 := hB.1.n2
  have f1 := hB.1.n9
  have f4 := hB.1.pc
  have f5 := hB.1.wc
  obtain ⟨x1, hx1⟩ : ∃ z, xs (i + 1) = z := ⟨_, rfl⟩
  obtain ⟨x2, hx2⟩ : ∃ z, xs (i + 2) = z := ⟨_, rfl⟩
  obtain ⟨x3, hx3⟩ : ∃ z, xs (i + 3) = z := ⟨_, rfl⟩
  cases hb : (wIn x1 0 (G 0 0 - 1 - 1) && wIn x2 0 4 && wIn x3 0 11)
  · refine lv_aload_n hz.1 hz.2.1 dL_law_195 rfl (lv_at hl 1 rfl) ?_
    refine lfe (n := 1) hz hX hbl hS hl (by omega) hL hx1 (by decide) dL_law_196 dL_law_197 dL_law_198 dL_law_199 dL_law_200 ?_
    refine lfe (n := 2) hz hX hbl hS hl (by omega) hL hx2 (by decide) dL_law_201 dL_law_202 dL_law_203 dL_law_204 dL_law_205 ?_
    refine lfe (n := 3) hz hX hbl hS hl (by omega) hL hx3 (by decide) dL_law_206 dL_law_207 dL_law_208 dL_law_209 dL_law_210 ?_
    refine wrV (A := lA s_) (As := [.int x1, .int x2, .int x3]) (rest := []) hz (okAm tS sk sv) (c5_wire_bad l_ D k a tS sk sv C F E ((G 0)) x1 x2 x3 hB.2 hB.1 hb) (cwV 3 hz.2.2.2.2 gL_law_X5_wire rfl rfl rfl (by decide +kernel) ⟨Nat.le_of_ble_eq_true rfl, Nat.le_of_ble_eq_true rfl⟩) hK hy (p0.app p1) (D_ix ha [0, 1, 2, 3, 4, 5, 6, 7, 8] rfl (by decide) (by decide)) hS 0 5 rfl rfl rfl rfl hl.1 rfl (Nat.le_of_ble_eq_true rfl) dL_law_211 ⟨Nat.le_of_ble_eq_true rfl, Nat.le_of_ble_eq_true rfl⟩ (fun r u H1 locs hp hP1 hS hfr => ?_)
    obtain rfl : r = -2 := hp
    have p0 := hP1.left
    have hP1 := hP1.right
    have p1 := hP1
    have kp : ∀ (g_ : va_W) (jx : List Nat), g_.map (fun q => q.1) = jx.map a → (∀ j ∈ jx, j < 54) → (∀ j ∈ jx, j ∉ ([0, 1, 2, 3, 4, 5, 6, 7, 8] : List Nat)) → va_P D vwCl g_ H → va_P D vwCl g_ H1 := fun g_ jx h1 h2 h3 h4 => keepG (wc := ho a C ++ (bw a 1 k F E)) ha [0, 1, 2, 3, 4, 5, 6, 7, 8] jx rfl h1 (by decide) h2 h3 h4 hfr
    have p2 := kp _ [9, 10, 11, 12, 13, 14, 15, 16] rfl (by decide) (by decide) p2
    have p3 := kp _ [17] rfl (by decide) (by decide) p3
    have p4 := kp _ [18, 19, 20, 21, 22, 23, 24, 25] rfl (by decide) (by decide) p4
    have p5 := kp _ [26, 27, 28, 29, 30, 31, 32, 33] rfl (by decide) (by decide) p5
    have p6 := kp _ [34] rfl (by decide) (by decide) p6
    have p7 := kp _ [35, 36] rfl (by decide) (by decide) p7
    have p8 := kp _ [37, 38] rfl (by decide) (by decide) p8
    have p9 := kp _ [39, 40, 41, 42, 43, 44, 45, 46, 47, 48, 49, 50, 51, 52] rfl (by decide) (by decide) p9
    have p10 := kp _ [53] rfl (by decide) (by decide) p10
    have pm := keepX (wc := ho a C ++ (bw a 1 k F E)) (g := mw b k I J G) hab [0, 1, 2, 3, 4, 5, 6, 7, 8] [0, 1, 2, 3, 4, 5, 6, 7, 8, 9, 10, 11, 12] rfl rfl (by decide) (by decide) pm hfr
    refine lv_aload_n hz.1 hz.2.1 dL_law_214 rfl (lv_at hl 2 rfl) ?_
    refine lfe (n := 1) hz hX hbl hS hl (by omega) hL hx1 (by decide) dL_law_215 dL_law_216 dL_law_217 dL_law_218 dL_law_219 ?_
    refine lfe (n := 2) hz hX hbl hS hl (by omega) hL hx2 (by decide) dL_law_220 dL_law_221 dL_law_222 dL_law_223 dL_law_224 ?_
    refine lfe (n := 3) hz hX hbl hS hl (by omega) hL hx3 (by decide) dL_law_225 dL_law_226 dL_law_227 dL_law_228 dL_law_229 ?_
    refine wrV (A := lA s_) (As := [.int x1, .int x2, .int x3]) (rest := [.int (-2)]) hz okYT (c6_wire_bad l_ D k b I J G x1 x2 x3 hB.1 hb) (cwV 3 hz.2.2.2.2 gL_law_X6_wire rfl rfl rfl (by decide +kernel) ⟨Nat.le_of_ble_eq_true rfl, Nat.le_of_ble_eq_true rfl⟩) hK trivial pm (D_ix hbk [0, 1, 2, 3, 4, 5, 6, 7, 8, 9, 10, 11, 12] rfl (by decide) (by decide)) hS 0 6 rfl rfl rfl rfl hl.1 rfl (Nat.le_of_ble_eq_true rfl) dL_law_230 ⟨Nat.le_of_ble_eq_true rfl, Nat.le_of_ble_eq_true rfl⟩ (fun r u H1 locs hp hP1 hS hfr => ?_)
    obtain rfl : r = -2 := hp
    have pm := hP1
    have pc_ : CPs D k a (nset C 0 (C 0 + 1)) F E Fd Ed Fp Ep Fq Eg K X ((G 9)) Z S Rr Y Nt Sl Mt Ch Q H1 := CPs.kept ⟨p0, p1, p2, p3, p4, p5, p6, p7, p8, p9, p10⟩ hba hfr
    obtain ⟨p0, p1, p2, p3, p4, p5, p6, p7, p8, p9, p10⟩ := pc_
    refine cmpE (tgt := 1063) hz (rfl) dL_law_233 (by decide) ?_
    exact hk _ _ ⟨nset C 0 (C 0 + 1), F, E, Fd, Ed, Fp, Ep, Fq, Eg, K, X, (G 9), Z, S, Rr, Y, Nt, Sl, Mt, Ch, Q, I, J, gset G 3 (sRef (G 3) 0), ⟨hB, hC.s0, hT, hQ, hM, hU⟩, ⟨p0, p1, p2, p3, p4, p5, p6, p7, p8, p9, p10⟩, pm⟩ hS ls hl
  · simp only [Bool.and_eq_true] at hb
    obtain ⟨⟨hb1, hb2⟩, hb3⟩ := hb
    obtain ⟨w, ⟨wl, wh⟩, rfl⟩ := wIn_t (by omega) (by omega) hb1
    obtain ⟨kd, ⟨kdl, kdh⟩, rfl⟩ := wIn_t (by omega) (by omega) hb2
    obtain ⟨t, ⟨tl, th⟩, rfl⟩ := wIn_t (by omega) (by omega) hb3
    refine lv_aload_n hz.1 hz.2.1 dL_law_195 rfl (lv_at hl 1 rfl) ?_
    refine lfe (n := 1) hz hX hbl hS hl (by omega) hL hx1 (by decide) dL_law_196 dL_law_197 dL_law_198 dL_law_199 dL_law_200 ?_
    refine lfe (n := 2) hz hX hbl hS hl (by omega) hL hx2 (by decide) dL_law_201 dL_law_202 dL_law_203 dL_law_204 dL_law_205 ?_
    refine lfe (n := 3) hz hX hbl hS hl (by omega) hL hx3 (by decide) dL_law_206 dL_law_207 dL_law_208 dL_law_209 dL_law_210 ?_
    refine wrV (A := lA s_) (As := [.int (nI w), .int (nI kd), .int (nI t)]) (rest := []) hz (okAm tS sk sv) (c5_wire_ok l_ D k a tS sk sv C F E ((G 0)) w kd t hB.2 hB.1 (by omega) kdh th) (cwV 3 hz.2.2.2.2 gL_law_X5_wire rfl rfl rfl (by decide +kernel) ⟨Nat.le_of_ble_eq_true rfl, Nat.le_of_ble_eq_true rfl⟩) hK hy (p0.app p1) (D_ix ha [0, 1, 2, 3, 4, 5, 6, 7, 8] rfl (by decide) (by decide)) hS 0 5 rfl rfl rfl rfl hl.1 rfl (Nat.le_of_ble_eq_true rfl) dL_law_211 ⟨Nat.le_of_ble_eq_true rfl, Nat.le_of_ble_eq_true rfl⟩ (fun r u H1 locs hp hP1 hS hfr => ?_)
    obtain rfl : r = nI (12 * (G 0) (3 + w) + (G 0) (11 + w)) := hp
    have p0 := hP1.left
    have hP1 := hP1.right
    have p1 := hP1
    have kp : ∀ (g_ : va_W) (jx : List Nat), g_.map (fun q => q.1) = jx.map a → (∀ j ∈ jx, j < 54) → (∀ j ∈ jx, j ∉ ([0, 1, 2, 3, 4, 5, 6, 7, 8] : List Nat)) → va_P D vwCl g_ H → va_P D vwCl g_ H1 := fun g_ jx h1 h2 h3 h4 => keepG (wc := ho a C ++ (bw a 1 k F E)) ha [0, 1, 2, 3, 4, 5, 6, 7, 8] jx rfl h1 (by decide) h2 h3 h4 hfr
    have p2 := kp _ [9, 10, 11, 12, 13, 14, 15, 16] rfl (by decide) (by decide) p2
    have p3 := kp _ [17] rfl (by decide) (by decide) p3
    have p4 := kp _ [18, 19, 20, 21, 22, 23, 24, 25] rfl (by decide) (by decide) p4
    have p5 := kp _ [26, 27, 28, 29, 30, 31, 32, 33] rfl (by decide) (by decide) p5
    have p6 := kp _ [34] rfl (by decide) (by decide) p6
    have p7 := kp _ [35, 36] rfl (by decide) (by decide) p7
    have p8 := kp _ [37, 38] rfl (by decide) (by decide) p8
    have p9 := kp _ [39, 40, 41, 42, 43, 44, 45, 46, 47, 48, 49, 50, 51, 52] rfl (by decide) (by decide) p9
    have p10 := kp _ [53] rfl (by decide) (by decide) p10
    have pm := keepX (wc := ho a C ++ (bw a 1 k F E)) (g := mw b k I J G) hab [0, 1, 2, 3, 4, 5, 6, 7, 8] [0, 1, 2, 3, 4, 5, 6, 7, 8, 9, 10, 11, 12] rfl rfl (by decide) (by decide) pm hfr
    refine lv_aload_n hz.1 hz.2.1 dL_law_214 rfl (lv_at hl 2 rfl) ?_
    refine lfe (n := 1) hz hX hbl hS hl (by omega) hL hx1 (by decide) dL_law_215 dL_law_216 dL_law_217 dL_law_218 dL_law_219 ?_
    refine lfe (n := 2) hz hX hbl hS hl (by omega) hL hx2 (by decide) dL_law_220 dL_law_221 dL_law_222 dL_law_223 dL_law_224 ?_
    refine lfe (n := 3) hz hX hbl hS hl (by omega) hL hx3 (by decide) dL_law_225 dL_law_226 dL_law_227 dL_law_228 dL_law_229 ?_
    refine wrV (A := lA s_) (As := [.int (nI w), .int (nI kd), .int (nI t)]) (rest := [.int (nI (12 * (G 0) (3 + w) + (G 0) (11 + w)))]) hz okYT (c6_wire_ok l_ D k b I J G w kd t hB.1 (by omega) kdh th) (cwV 3 hz.2.2.2.2 gL_law_X6_wire rfl rfl rfl (by decide +kernel) ⟨Nat.le_of_ble_eq_true rfl, Nat.le_of_ble_eq_true rfl⟩) hK trivial pm (D_ix hbk [0, 1, 2, 3, 4, 5, 6, 7, 8, 9, 10, 11, 12] rfl (by decide) (by decide)) hS 0 6 rfl rfl rfl rfl hl.1 rfl (Nat.le_of_ble_eq_true rfl) dL_law_230 ⟨Nat.le_of_ble_eq_true rfl, Nat.le_of_ble_eq_true rfl⟩ (fun r u H1 locs hp hP1 hS hfr => ?_)
    obtain rfl : r = nI (12 * G 0 (3 + w) + G 0 (11 + w)) := hp
    have pm := hP1
    have pc_ : CPs D k a C F (gset (gset E 0 (nset (E 0) w kd)) 1 (nset (E 1) w t)) Fd Ed Fp Ep Fq Eg K X ((G 9)) Z S Rr Y Nt Sl Mt Ch Q H1 := CPs.kept ⟨p0, p1, p2, p3, p4, p5, p6, p7, p8, p9, p10⟩ hba hfr
    obtain ⟨p0, p1, p2, p3, p4, p5, p6, p7, p8, p9, p10⟩ := pc_
    refine cmpE (tgt := 1063) hz (rfl) dL_law_233 (by decide) ?_
    exact hk _ _ ⟨C, F, gset (gset E 0 (nset (E 0) w kd)) 1 (nset (E 1) w t), Fd, Ed, Fp, Ep, Fq, Eg, K, X, (G 9), Z, S, Rr, Y, Nt, Sl, Mt, Ch, Q, I, J, gset G 0 (sWire (G 0) w kd t), ⟨⟨hB.1.wire (by omega) kdh th, hB.2.wire f5 (by omega) _ _⟩, hC, hT, hQ, hM, hU⟩, ⟨p0, p1, p2, p3, p4, p5, p6, p7, p8, p9, p10⟩, pm⟩ hS ls hl

set_option maxHeartbeats 4000000 in
set_option maxRecDepth 100000 in
theorem law_frost {p_ : Program} {l_ : Launch} {e_ : Env} {s_ : State} {m_ : MethodId} {bl_ : List Frame} {me_ : Method} {c_ : Code} {D : va_G} {k : Nat → ClassId} {a b : Nat → Nat} {b0 L : Nat} {xs : Nat → Int32} {tS : Nat} {sk sv : Nat → Nat} {i : Nat} (E0 : LE p_ s_ m_ c_ D k a b b0 L xs tS sk sv) (hi : i + 6 ≤ L) (hk : LK p_ l_ e_ s_ m_ bl_ me_ c_ D k a b b0 i 1063) : LK p_ l_ e_ s_ m_ bl_ me_ c_ D k a b b0 i 238 := by
  obtain ⟨hz, hX, hbl, hK, hy, ha, hbk, hab, hL⟩ := E0
  have hba : ∀ i j, i < 13 → j < 54 → b i ≠ a j := fun i j h1 h2 q => hab j i h2 h1 q.symm
  intro H locs hI hS ls hl
  obtain ⟨C, F, E, Fd, Ed, Fp, Ep, Fq, Eg, K, X, T, Z, S, Rr, Y, Nt, Sl, Mt, Ch, Q, I, J, G, ⟨hB, hC, hT, hQ, hM, hU⟩, ⟨p0, p1, p2, p3, p4, p5, p6, p7, p8, p9, p10⟩, pm⟩ := id hI
  obtain ⟨eX, hI2, rfl, hTb⟩ := hT
  have hT : LT X (G 9) I (G 9) := ⟨eX, hI2, rfl, hTb⟩
  have f0 := hB.1.n2
  have f1 := hB.1.n9
  have f4 := hB.1.pc
  have f5 := hB.1.wc
  obtain ⟨x1, hx1⟩ : ∃ z, xs (i + 1) = z := ⟨_, rfl⟩
  cases hb : (wIn x1 0 5)
  · refine lv_aload_n hz.1 hz.2.1 dL_law_238 rfl (lv_at hl 1 rfl) ?_
    refine lfe (n := 1) hz hX hbl hS hl (by omega) hL hx1 (by decide) dL_law_239 dL_law_240 dL_law_241 dL_law_242 dL_law_243 ?_
    refine wrV (A := lA s_) (As := [.int x1]) (rest := []) hz (okAm tS sk sv) (c5_frost_bad l_ D k a tS sk sv C F E ((G 0)) x1 hB.2 hB.1 hb) (cwV 1 hz.2.2.2.2 gL_law_X5_frost rfl rfl rfl (by decide +kernel) ⟨Nat.le_of_ble_eq_true rfl, Nat.le_of_ble_eq_true rfl⟩) hK hy (p0.app p1) (D_ix ha [0, 1, 2, 3, 4, 5, 6, 7, 8] rfl (by decide) (by decide)) hS 0 5 rfl rfl rfl rfl hl.1 rfl (Nat.le_of_ble_eq_true rfl) dL_law_244 ⟨Nat.le_of_ble_eq_true rfl, Nat.le_of_ble_eq_true rfl⟩ (fun r u H1 locs hp hP1 hS hfr => ?_)
    obtain rfl : r = -2 := hp
    have p0 := hP1.left
    have hP1 := hP1.right
    have p1 := hP1
    have kp : ∀ (g_ : va_W) (jx : List Nat), g_.map (fun q => q.1) = jx.map a → (∀ j ∈ jx, j < 54) → (∀ j ∈ jx, j ∉ ([0, 1, 2, 3, 4, 5, 6, 7, 8] : List Nat)) → va_P D vwCl g_ H → va_P D vwCl g_ H1 := fun g_ jx h1 h2 h3 h4 => keepG (wc := ho a C ++ (bw a 1 k F E)) ha [0, 1, 2, 3, 4, 5, 6, 7, 8] jx rfl h1 (by decide) h2 h3 h4 hfr
    have p2 := kp _ [9, 10, 11, 12, 13, 14, 15, 16] rfl (by decide) (by decide) p2
    have p3 := kp _ [17] rfl (by decide) (by decide) p3
    have p4 := kp _ [18, 19, 20, 21, 22, 23, 24, 25] rfl (by decide) (by decide) p4
    have p5 := kp _ [26, 27, 28, 29, 30, 31, 32, 33] rfl (by decide) (by decide) p5
    have p6 := kp _ [34] rfl (by decide) (by decide) p6
    have p7 := kp _ [35, 36] rfl (by decide) (by decide) p7
    have p8 := kp _ [37, 38] rfl (by decide) (by decide) p8
    have p9 := kp _ [39, 40, 41, 42, 43, 44, 45, 46, 47, 48, 49, 50, 51, 52] rfl (by decide) (by decide) p9
    have p10 := kp _ [53] rfl (by decide) (by decide) p10
    have pm := keepX (wc := ho a C ++ (bw a 1 k F E)) (g := mw b k I J G) hab [0, 1, 2, 3, 4, 5, 6, 7, 8] [0, 1, 2, 3, 4, 5, 6, 7, 8, 9, 10, 11, 12] rfl rfl (by decide) (by decide) pm hfr
    refine lv_aload_n hz.1 hz.2.1 dL_law_247 rfl (lv_at hl 2 rfl) ?_
    refine lfe (n := 1) hz hX hbl hS hl (by omega) hL hx1 (by decide) dL_law_248 dL_law_249 dL_law_250 dL_law_251 dL_law_252 ?_
    refine wrV (A := lA s_) (As := [.int x1]) (rest := [.int (-2)]) hz okYT (c6_frost_bad l_ D k b I J G x1 hb) (cwV 1 hz.2.2.2.2 gL_law_X6_frost rfl rfl rfl (by decide +kernel) ⟨Nat.le_of_ble_eq_true rfl, Nat.le_of_ble_eq_true rfl⟩) hK trivial pm (D_ix hbk [0, 1, 2, 3, 4, 5, 6, 7, 8, 9, 10, 11, 12] rfl (by decide) (by decide)) hS 0 6 rfl rfl rfl rfl hl.1 rfl (Nat.le_of_ble_eq_true rfl) dL_law_253 ⟨Nat.le_of_ble_eq_true rfl, Nat.le_of_ble_eq_true rfl⟩ (fun r u H1 locs hp hP1 hS hfr => ?_)
    obtain rfl : r = -2 := hp
    have pm := hP1
    have pc_ : CPs D k a (nset C 0 (C 0 + 1)) F E Fd Ed Fp Ep Fq Eg K X ((G 9)) Z S Rr Y Nt Sl Mt Ch Q H1 := CPs.kept ⟨p0, p1, p2, p3, p4, p5, p6, p7, p8, p9, p10⟩ hba hfr
    obtain ⟨p0, p1, p2, p3, p4, p5, p6, p7, p8, p9, p10⟩ := pc_
    refine cmpE (tgt := 1063) hz (rfl) dL_law_256 (by decide) ?_
    exact hk _ _ ⟨nset C 0 (C 0 + 1), F, E, Fd, Ed, Fp, Ep, Fq, Eg, K, X, (G 9), Z, S, Rr, Y, Nt, Sl, Mt, Ch, Q, I, J, gset G 3 (sRef (G 3) 0), ⟨hB, hC.s0, hT, hQ, hM, hU⟩, ⟨p0, p1, p2, p3, p4, p5, p6, p7, p8, p9, p10⟩, pm⟩ hS ls hl
  · have hb1 := hb
    obtain ⟨n, ⟨nl, nh⟩, rfl⟩ := wIn_t (by omega) (by omega) hb1
    refine lv_aload_n hz.1 hz.2.1 dL_law_238 rfl (lv_at hl 1 rfl) ?_
    refine lfe (n := 1) hz hX hbl hS hl (by omega) hL hx1 (by decide) dL_law_239 dL_law_240 dL_law_241 dL_law_242 dL_law_243 ?_
    refine wrV (A := lA s_) (As := [.int (nI n)]) (rest := []) hz (okAm tS sk sv) (c5_frost_ok l_ D k a tS sk sv C F E ((G 0)) n hB.2 hB.1 nh) (cwV 1 hz.2.2.2.2 gL_law_X5_frost rfl rfl rfl (by decide +kernel) ⟨Nat.le_of_ble_eq_true rfl, Nat.le_of_ble_eq_true rfl⟩) hK hy (p0.app p1) (D_ix ha [0, 1, 2, 3, 4, 5, 6, 7, 8] rfl (by decide) (by decide)) hS 0 5 rfl rfl rfl rfl hl.1 rfl (Nat.le_of_ble_eq_true rfl) dL_law_244 ⟨Nat.le_of_ble_eq_true rfl, Nat.le_of_ble_eq_true rfl⟩ (fun r u H1 locs hp hP1 hS hfr => ?_)
    obtain rfl : r = nI ((G 0) 1) := hp
    have p0 := hP1.left
    have hP1 := hP1.right
    have p1 := hP1
    have kp : ∀ (g_ : va_W) (jx : List Nat), g_.map (fun q => q.1) = jx.map a → (∀ j ∈ jx, j < 54) → (∀ j ∈ jx, j ∉ ([0, 1, 2, 3, 4, 5, 6, 7, 8] : List Nat)) → va_P D vwCl g_ H → va_P D vwCl g_ H1 := fun g_ jx h1 h2 h3 h4 => keepG (wc := ho a C ++ (bw a 1 k F E)) ha [0, 1, 2, 3, 4, 5, 6, 7, 8] jx rfl h1 (by decide) h2 h3 h4 hfr
    have p2 := kp _ [9, 10, 11, 12, 13, 14, 15, 16] rfl (by decide) (by decide) p2
    have p3 := kp _ [17] rfl (by decide) (by decide) p3
    have p4 := kp _ [18, 19, 20, 21, 22, 23, 24, 25] rfl (by decide) (by decide) p4
    have p5 := kp _ [26, 27, 28, 29, 30, 31, 32, 33] rfl (by decide) (by decide) p5
    have p6 := kp _ [34] rfl (by decide) (by decide) p6
    have p7 := kp _ [35, 36] rfl (by decide) (by decide) p7
    have p8 := kp _ [37, 38] rfl (by decide) (by decide) p8
    have p9 := kp _ [39, 40, 41, 42, 43, 44, 45, 46, 47, 48, 49, 50, 51, 52] rfl (by decide) (by decide) p9
    have p10 := kp _ [53] rfl (by decide) (by decide) p10
    have pm := keepX (wc := ho a C ++ (bw a 1 k F E)) (g := mw b k I J G) hab [0, 1, 2, 3, 4, 5, 6, 7, 8] [0, 1, 2, 3, 4, 5, 6, 7, 8, 9, 10, 11, 12] rfl rfl (by decide) (by decide) pm hfr
    refine lv_aload_n hz.1 hz.2.1 dL_law_247 rfl (lv_at hl 2 rfl) ?_
    refine lfe (n := 1) hz hX hbl hS hl (by omega) hL hx1 (by decide) dL_law_248 dL_law_249 dL_law_250 dL_law_251 dL_law_252 ?_
    refine wrV (A := lA s_) (As := [.int (nI n)]) (rest := [.int (nI ((G 0) 1))]) hz okYT (c6_frost_ok l_ D k b I J G n nh) (cwV 1 hz.2.2.2.2 gL_law_X6_frost rfl rfl rfl (by decide +kernel) ⟨Nat.le_of_ble_eq_true rfl, Nat.le_of_ble_eq_true rfl⟩) hK trivial pm (D_ix hbk [0, 1, 2, 3, 4, 5, 6, 7, 8, 9, 10, 11, 12] rfl (by decide) (by decide)) hS 0 6 rfl rfl rfl rfl hl.1 rfl (Nat.le_of_ble_eq_true rfl) dL_law_253 ⟨Nat.le_of_ble_eq_true rfl, Nat.le_of_ble_eq_true rfl⟩ (fun r u H1 locs hp hP1 hS hfr => ?_)
    obtain rfl : r = nI (G 0 1) := hp
    have pm := hP1
    have pc_ : CPs D k a C (nset F 1 n) E Fd Ed Fp Ep Fq Eg K X ((G 9)) Z S Rr Y Nt Sl Mt Ch Q H1 := CPs.kept ⟨p0, p1, p2, p3, p4, p5, p6, p7, p8, p9, p10⟩ hba hfr
    obtain ⟨p0, p1, p2, p3, p4, p5, p6, p7, p8, p9, p10⟩ := pc_
    refine cmpE (tgt := 1063) hz (rfl) dL_law_256 (by decide) ?_
    exact hk _ _ ⟨C, nset F 1 n, E, Fd, Ed, Fp, Ep, Fq, Eg, K, X, (G 9), Z, S, Rr, Y, Nt, Sl, Mt, Ch, Q, I, J, gset G 0 (nset (G 0) 1 n), ⟨⟨hB.1.small (Or.inl ⟨rfl, nh⟩), hB.2.frost _⟩, hC, hT, hQ, hM, hU⟩, ⟨p0, p1, p2, p3, p4, p5, p6, p7, p8, p9, p10⟩, pm⟩ hS ls hl

set_option maxHeartbeats 4000000 in
set_option maxRecDepth 100000 in
theorem law_guard {p_ : Program} {l_ : Launch} {e_ : Env} {s_ : State} {m_ : MethodId} {bl_ : List Frame} {me_ : Method} {c_ : Code} {D : va_G} {k : Nat → ClassId} {a b : Nat → Nat} {b0 L : Nat} {xs : Nat → Int32} {tS : Nat} {sk sv : Nat → Nat} {i : Nat} (E0 : LE p_ s_ m_ c_ D k a b b0 L xs tS sk sv) (hi : i + 6 ≤ L) (hk : LK p_ l_ e_ s_ m_ bl_ me_ c_ D k a b b0 i 1063) : LK p_ l_ e_ s_ m_ bl_ me_ c_ D k a b b0 i 261 := by
  obtain ⟨hz, hX, hbl, hK, hy, ha, hbk, hab, hL⟩ := E0
  have hba : ∀ i j, i < 13 → j < 54 → b i ≠ a j := fun i j h1 h2 q => hab j i h2 h1 q.symm
  intro H locs hI hS ls hl
  obtain ⟨C, F, E, Fd, Ed, Fp, Ep, Fq, Eg, K, X, T, Z, S, Rr, Y, Nt, Sl, Mt, Ch, Q, I, J, G, ⟨hB, hC, hT, hQ, hM, hU⟩, ⟨p0, p1, p2, p3, p4, p5, p6, p7, p8, p9, p10⟩, pm⟩ := id hI
  obtain ⟨eX, hI2, rfl, hTb⟩ := hT
  have hT : LT X (G 9) I (G 9) := ⟨eX, hI2, rfl, hTb⟩
  have f0 := hB.1.n2
  have f1 := hB.1.n9
  have f4 := hB.1.pc
  have f5 := hB.1.wc
  obtain ⟨x1, hx1⟩ : ∃ z, xs (i + 1) = z := ⟨_, rfl⟩
  obtain ⟨x2, hx2⟩ : ∃ z, xs (i + 2) = z := ⟨_, rfl⟩
  by_cases ht0 : x2 = 0
  · cases hb : (wIn x1 0 (G 0 0 - 1))
    · refine lv_aload_n hz.1 hz.2.1 dL_law_261 rfl (lv_at hl 1 rfl) ?_
      refine lfe (n := 1) hz hX hbl hS hl (by omega) hL hx1 (by decide) dL_law_262 dL_law_263 dL_law_264 dL_law_265 dL_law_266 ?_
      refine lfe (n := 2) hz hX hbl hS hl (by omega) hL hx2 (by decide) dL_law_267 dL_law_268 dL_law_269 dL_law_270 dL_law_271 ?_
      refine ifT (tgt := 279) hz ht0 dL_law_272 (by decide) ?_
      refine lv_iconst (v := bI false) hz.1 hz.2.1 dL_law_279 (by decide) ?_
      refine wrV (A := lA s_) (As := [.int x1, .int (bI false)]) (rest := []) hz (okAm tS sk sv) (c5_guard_bad l_ D k a tS sk sv C F E ((G 0)) x1 false hB.2 hB.1 hb) (cwV 2 hz.2.2.2.2 gL_law_X5_guard rfl rfl rfl (by decide +kernel) ⟨Nat.le_of_ble_eq_true rfl, Nat.le_of_ble_eq_true rfl⟩) hK hy (p0.app p1) (D_ix ha [0, 1, 2, 3, 4, 5, 6, 7, 8] rfl (by decide) (by decide)) hS 0 5 rfl rfl rfl rfl hl.1 rfl (Nat.le_of_ble_eq_true rfl) dL_law_280 ⟨Nat.le_of_ble_eq_true rfl, Nat.le_of_ble_eq_true rfl⟩ (fun r u H1 locs hp hP1 hS hfr => ?_)
      obtain rfl : r = -2 := hp
      have p0 := hP1.left
      have hP1 := hP1.right
      have p1 := hP1
      have kp : ∀ (g_ : va_W) (jx : List Nat), g_.map (fun q => q.1) = jx.map a → (∀ j ∈ jx, j < 54) → (∀ j ∈ jx, j ∉ ([0, 1, 2, 3, 4, 5, 6, 7, 8] : List Nat)) → va_P D vwCl g_ H → va_P D vwCl g_ H1 := fun g_ jx h1 h2 h3 h4 => keepG (wc := ho a C ++ (bw a 1 k F E)) ha [0, 1, 2, 3, 4, 5, 6, 7, 8] jx rfl h1 (by decide) h2 h3 h4 hfr
      have p2 := kp _ [9, 10, 11, 12, 13, 14, 15, 16] rfl (by decide) (by decide) p2
      have p3 := kp _ [17] rfl (by decide) (by decide) p3
      have p4 := kp _ [18, 19, 20, 21, 22, 23, 24, 25] rfl (by decide) (by decide) p4
      have p5 := kp _ [26, 27, 28, 29, 30, 31, 32, 33] rfl (by decide) (by decide) p5
      have p6 := kp _ [34] rfl (by decide) (by decide) p6
      have p7 := kp _ [35, 36] rfl (by decide) (by decide) p7
      have p8 := kp _ [37, 38] rfl (by decide) (by decide) p8
      have p9 := kp _ [39, 40, 41, 42, 43, 44, 45, 46, 47, 48, 49, 50, 51, 52] rfl (by decide) (by decide) p9
      have p10 := kp _ [53] rfl (by decide) (by decide) p10
      have pm := keepX (wc := ho a C ++ (bw a 1 k F E)) (g := mw b k I J G) hab [0, 1, 2, 3, 4, 5, 6, 7, 8] [0, 1, 2, 3, 4, 5, 6, 7, 8, 9, 10, 11, 12] rfl rfl (by decide) (by decide) pm hfr
      refine lv_aload_n hz.1 hz.2.1 dL_law_283 rfl (lv_at hl 2 rfl) ?_
      refine lfe (n := 1) hz hX hbl hS hl (by omega) hL hx1 (by decide) dL_law_284 dL_law_285 dL_law_286 dL_law_287 dL_law_288 ?_
      refine lfe (n := 2) hz hX hbl hS hl (by omega) hL hx2 (by decide) dL_law_289 dL_law_290 dL_law_291 dL_law_292 dL_law_293 ?_
      refine ifT (tgt := 301) hz ht0 dL_law_294 (by decide) ?_
      refine lv_iconst (v := bI false) hz.1 hz.2.1 dL_law_301 (by decide) ?_
      refine wrV (A := lA s_) (As := [.int x1, .int (bI false)]) (rest := [.int (-2)]) hz okYT (c6_guard_bad l_ D k b I J G x1 false hB.1 hb) (cwV 2 hz.2.2.2.2 gL_law_X6_guard rfl rfl rfl (by decide +kernel) ⟨Nat.le_of_ble_eq_true rfl, Nat.le_of_ble_eq_true rfl⟩) hK trivial pm (D_ix hbk [0, 1, 2, 3, 4, 5, 6, 7, 8, 9, 10, 11, 12] rfl (by decide) (by decide)) hS 0 6 rfl rfl rfl rfl hl.1 rfl (Nat.le_of_ble_eq_true rfl) dL_law_302 ⟨Nat.le_of_ble_eq_true rfl, Nat.le_of_ble_eq_true rfl⟩ (fun r u H1 locs hp hP1 hS hfr => ?_)
      obtain rfl : r = -2 := hp
      have pm := hP1
      have pc_ : CPs D k a (nset C 0 (C 0 + 1)) F E Fd Ed Fp Ep Fq Eg K X ((G 9)) Z S Rr Y Nt Sl Mt Ch Q H1 := CPs.kept ⟨p0, p1, p2, p3, p4, p5, p6, p7, p8, p9, p10⟩ hba hfr
      obtain ⟨p0, p1, p2, p3, p4, p5, p6, p7, p8, p9, p10⟩ := pc_
      refine cmpE (tgt := 1063) hz (rfl) dL_law_305 (by decide) ?_
      exact hk _ _ ⟨nset C 0 (C 0 + 1), F, E, Fd, Ed, Fp, Ep, Fq, Eg, K, X, (G 9), Z, S, Rr, Y, Nt, Sl, Mt, Ch, Q, I, J, gset G 3 (sRef (G 3) 0), ⟨hB, hC.s0, hT, hQ, hM, hU⟩, ⟨p0, p1, p2, p3, p4, p5, p6, p7, p8, p9, p10⟩, pm⟩ hS ls hl
    · have hb1 := hb
      obtain ⟨p, ⟨pl, ph⟩, rfl⟩ := wIn_t (by omega) (by omega) hb1
      by_cases hg : (G 0 2).testBit p = false
      · refine lv_aload_n hz.1 hz.2.1 dL_law_261 rfl (lv_at hl 1 rfl) ?_
        refine lfe (n := 1) hz hX hbl hS hl (by omega) hL hx1 (by decide) dL_law_262 dL_law_263 dL_law_264 dL_law_265 dL_law_266 ?_
        refine lfe (n := 2) hz hX hbl hS hl (by omega) hL hx2 (by decide) dL_law_267 dL_law_268 dL_law_269 dL_law_270 dL_law_271 ?_
        refine ifT (tgt := 279) hz ht0 dL_law_272 (by decide) ?_
        refine lv_iconst (v := bI false) hz.1 hz.2.1 dL_law_279 (by decide) ?_
        refine wrV (A := lA s_) (As := [.int (nI p), .int (bI false)]) (rest := []) hz (okAm tS sk sv) (c5_guard_no l_ D k a tS sk sv C F E ((G 0)) p false hB.2 hB.1 (by omega) hg) (cwV 2 hz.2.2.2.2 gL_law_X5_guard rfl rfl rfl (by decide +kernel) ⟨Nat.le_of_ble_eq_true rfl, Nat.le_of_ble_eq_true rfl⟩) hK hy (p0.app p1) (D_ix ha [0, 1, 2, 3, 4, 5, 6, 7, 8] rfl (by decide) (by decide)) hS 0 5 rfl rfl rfl rfl hl.1 rfl (Nat.le_of_ble_eq_true rfl) dL_law_280 ⟨Nat.le_of_ble_eq_true rfl, Nat.le_of_ble_eq_true rfl⟩ (fun r u H1 locs hp hP1 hS hfr => ?_)
        obtain rfl : r = -3 := hp
        have p0 := hP1.left
        have hP1 := hP1.right
        have p1 := hP1
        have kp : ∀ (g_ : va_W) (jx : List Nat), g_.map (fun q => q.1) = jx.map a → (∀ j ∈ jx, j < 54) → (∀ j ∈ jx, j ∉ ([0, 1, 2, 3, 4, 5, 6, 7, 8] : List Nat)) → va_P D vwCl g_ H → va_P D vwCl g_ H1 := fun g_ jx h1 h2 h3 h4 => keepG (wc := ho a C ++ (bw a 1 k F E)) ha [0, 1, 2, 3, 4, 5, 6, 7, 8] jx rfl h1 (by decide) h2 h3 h4 hfr
        have p2 := kp _ [9, 10, 11, 12, 13, 14, 15, 16] rfl (by decide) (by decide) p2
        have p3 := kp _ [17] rfl (by decide) (by decide) p3
        have p4 := kp _ [18, 19, 20, 21, 22, 23, 24, 25] rfl (by decide) (by decide) p4
        have p5 := kp _ [26, 27, 28, 29, 30, 31, 32, 33] rfl (by decide) (by decide) p5
        have p6 := kp _ [34] rfl (by decide) (by decide) p6
        have p7 := kp _ [35, 36] rfl (by decide) (by decide) p7
        have p8 := kp _ [37, 38] rfl (by decide) (by decide) p8
        have p9 := kp _ [39, 40, 41, 42, 43, 44, 45, 46, 47, 48, 49, 50, 51, 52] rfl (by decide) (by decide) p9
        have p10 := kp _ [53] rfl (by decide) (by decide) p10
        have pm := keepX (wc := ho a C ++ (bw a 1 k F E)) (g := mw b k I J G) hab [0, 1, 2, 3, 4, 5, 6, 7, 8] [0, 1, 2, 3, 4, 5, 6, 7, 8, 9, 10, 11, 12] rfl rfl (by decide) (by decide) pm hfr
        refine lv_aload_n hz.1 hz.2.1 dL_law_283 rfl (lv_at hl 2 rfl) ?_
        refine lfe (n := 1) hz hX hbl hS hl (by omega) hL hx1 (by decide) dL_law_284 dL_law_285 dL_law_286 dL_law_287 dL_law_288 ?_
        refine lfe (n := 2) hz hX hbl hS hl (by omega) hL hx2 (by decide) dL_law_289 dL_law_290 dL_law_291 dL_law_292 dL_law_293 ?_
        refine ifT (tgt := 301) hz ht0 dL_law_294 (by decide) ?_
        refine lv_iconst (v := bI false) hz.1 hz.2.1 dL_law_301 (by decide) ?_
        refine wrV (A := lA s_) (As := [.int (nI p), .int (bI false)]) (rest := [.int (-3)]) hz okYT (c6_guard_no l_ D k b I J G p false hB.1 (by omega) hg) (cwV 2 hz.2.2.2.2 gL_law_X6_guard rfl rfl rfl (by decide +kernel) ⟨Nat.le_of_ble_eq_true rfl, Nat.le_of_ble_eq_true rfl⟩) hK trivial pm (D_ix hbk [0, 1, 2, 3, 4, 5, 6, 7, 8, 9, 10, 11, 12] rfl (by decide) (by decide)) hS 0 6 rfl rfl rfl rfl hl.1 rfl (Nat.le_of_ble_eq_true rfl) dL_law_302 ⟨Nat.le_of_ble_eq_true rfl, Nat.le_of_ble_eq_true rfl⟩ (fun r u H1 locs hp hP1 hS hfr => ?_)
        obtain rfl : r = -3 := hp
        have pm := hP1
        have pc_ : CPs D k a (nset C 1 (C 1 + 1)) F E Fd Ed Fp Ep Fq Eg K X ((G 9)) Z S Rr Y Nt Sl Mt Ch Q H1 := CPs.kept ⟨p0, p1, p2, p3, p4, p5, p6, p7, p8, p9, p10⟩ hba hfr
        obtain ⟨p0, p1, p2, p3, p4, p5, p6, p7, p8, p9, p10⟩ := pc_
        refine cmpE (tgt := 1063) hz (rfl) dL_law_305 (by decide) ?_
        exact hk _ _ ⟨nset C 1 (C 1 + 1), F, E, Fd, Ed, Fp, Ep, Fq, Eg, K, X, (G 9), Z, S, Rr, Y, Nt, Sl, Mt, Ch, Q, I, J, gset G 3 (sRef (G 3) 1), ⟨hB, hC.s1, hT, hQ, hM, hU⟩, ⟨p0, p1, p2, p3, p4, p5, p6, p7, p8, p9, p10⟩, pm⟩ hS ls hl
      · refine lv_aload_n hz.1 hz.2.1 dL_law_261 rfl (lv_at hl 1 rfl) ?_
        refine lfe (n := 1) hz hX hbl hS hl (by omega) hL hx1 (by decide) dL_law_262 dL_law_263 dL_law_264 dL_law_265 dL_law_266 ?_
        refine lfe (n := 2) hz hX hbl hS hl (by omega) hL hx2 (by decide) dL_law_267 dL_law_268 dL_law_269 dL_law_270 dL_law_271 ?_
        refine ifT (tgt := 279) hz ht0 dL_law_272 (by decide) ?_
        refine lv_iconst (v := bI false) hz.1 hz.2.1 dL_law_279 (by decide) ?_
        refine wrV (A := lA s_) (As := [.int (nI p), .int (bI false)]) (rest := []) hz (okAm tS sk sv) (c5_guard_ok l_ D k a tS sk sv C F E ((G 0)) p false hB.2 hB.1 (by omega) hg) (cwV 2 hz.2.2.2.2 gL_law_X5_guard rfl rfl rfl (by decide +kernel) ⟨Nat.le_of_ble_eq_true rfl, Nat.le_of_ble_eq_true rfl⟩) hK hy (p0.app p1) (D_ix ha [0, 1, 2, 3, 4, 5, 6, 7, 8] rfl (by decide) (by decide)) hS 0 5 rfl rfl rfl rfl hl.1 rfl (Nat.le_of_ble_eq_true rfl) dL_law_280 ⟨Nat.le_of_ble_eq_true rfl, Nat.le_of_ble_eq_true rfl⟩ (fun r u H1 locs hp hP1 hS hfr => ?_)
        obtain rfl : r = nI 1 := hp
        have p0 := hP1.left
        have hP1 := hP1.right
        have p1 := hP1
        have kp : ∀ (g_ : va_W) (jx : List Nat), g_.map (fun q => q.1) = jx.map a → (∀ j ∈ jx, j < 54) → (∀ j ∈ jx, j ∉ ([0, 1, 2, 3, 4, 5, 6, 7, 8] : List Nat)) → va_P D vwCl g_ H → va_P D vwCl g_ H1 := fun g_ jx h1 h2 h3 h4 => keepG (wc := ho a C ++ (bw a 1 k F E)) ha [0, 1, 2, 3, 4, 5, 6, 7, 8] jx rfl h1 (by decide) h2 h3 h4 hfr
        have p2 := kp _ [9, 10, 11, 12, 13, 14, 15, 16] rfl (by decide) (by decide) p2
        have p3 := kp _ [17] rfl (by decide) (by decide) p3
        have p4 := kp _ [18, 19, 20, 21, 22, 23, 24, 25] rfl (by decide) (by decide) p4
        have p5 := kp _ [26, 27, 28, 29, 30, 31, 32, 33] rfl (by decide) (by decide) p5
        have p6 := kp _ [34] rfl (by decide) (by decide) p6
        have p7 := kp _ [35, 36] rfl (by decide) (by decide) p7
        have p8 := kp _ [37, 38] rfl (by decide) (by decide) p8
        have p9 := kp _ [39, 40, 41, 42, 43, 44, 45, 46, 47, 48, 49, 50, 51, 52] rfl (by decide) (by decide) p9
        have p10 := kp _ [53] rfl (by decide) (by decide) p10
        have pm := keepX (wc := ho a C ++ (bw a 1 k F E)) (g := mw b k I J G) hab [0, 1, 2, 3, 4, 5, 6, 7, 8] [0, 1, 2, 3, 4, 5, 6, 7, 8, 9, 10, 11, 12] rfl rfl (by decide) (by decide) pm hfr
        refine lv_aload_n hz.1 hz.2.1 dL_law_283 rfl (lv_at hl 2 rfl) ?_
        refine lfe (n := 1) hz hX hbl hS hl (by omega) hL hx1 (by decide) dL_law_284 dL_law_285 dL_law_286 dL_law_287 dL_law_288 ?_
        refine lfe (n := 2) hz hX hbl hS hl (by omega) hL hx2 (by decide) dL_law_289 dL_law_290 dL_law_291 dL_law_292 dL_law_293 ?_
        refine ifT (tgt := 301) hz ht0 dL_law_294 (by decide) ?_
        refine lv_iconst (v := bI false) hz.1 hz.2.1 dL_law_301 (by decide) ?_
        refine wrV (A := lA s_) (As := [.int (nI p), .int (bI false)]) (rest := [.int (nI 1)]) hz okYT (c6_guard_ok l_ D k b I J G p false hB.1 (by omega) hg) (cwV 2 hz.2.2.2.2 gL_law_X6_guard rfl rfl rfl (by decide +kernel) ⟨Nat.le_of_ble_eq_true rfl, Nat.le_of_ble_eq_true rfl⟩) hK trivial pm (D_ix hbk [0, 1, 2, 3, 4, 5, 6, 7, 8, 9, 10, 11, 12] rfl (by decide) (by decide)) hS 0 6 rfl rfl rfl rfl hl.1 rfl (Nat.le_of_ble_eq_true rfl) dL_law_302 ⟨Nat.le_of_ble_eq_true rfl, Nat.le_of_ble_eq_true rfl⟩ (fun r u H1 locs hp hP1 hS hfr => ?_)
        obtain rfl : r = nI 1 := hp
        have pm := hP1
        have pc_ : CPs D k a C (nset F 2 ((G 0) 2 ^^^ 2 ^ p)) E Fd Ed Fp Ep Fq Eg K X ((G 9)) Z S Rr Y Nt Sl Mt Ch Q H1 := CPs.kept ⟨p0, p1, p2, p3, p4, p5, p6, p7, p8, p9, p10⟩ hba hfr
        obtain ⟨p0, p1, p2, p3, p4, p5, p6, p7, p8, p9, p10⟩ := pc_
        refine cmpE (tgt := 1063) hz (rfl) dL_law_305 (by decide) ?_
        exact hk _ _ ⟨C, nset F 2 ((G 0) 2 ^^^ 2 ^ p), E, Fd, Ed, Fp, Ep, Fq, Eg, K, X, (G 9), Z, S, Rr, Y, Nt, Sl, Mt, Ch, Q, I, J, gset G 0 (nset (G 0) 2 (G 0 2 ^^^ 2 ^ p)), ⟨⟨hB.1.small (Or.inr (Or.inl ⟨rfl, Nat.xor_lt_two_pow hB.1.2.2.1 (Nat.pow_lt_pow_right (by decide) (by omega))⟩)), hB.2.guard _⟩, hC, hT, hQ, hM, hU⟩, ⟨p0, p1, p2, p3, p4, p5, p6, p7, p8, p9, p10⟩, pm⟩ hS ls hl
  · cases hb : (wIn x1 0 (G 0 0 - 1))
    · refine lv_aload_n hz.1 hz.2.1 dL_law_261 rfl (lv_at hl 1 rfl) ?_
      refine lfe (n := 1) hz hX hbl hS hl (by omega) hL hx1 (by decide) dL_law_262 dL_law_263 dL_law_264 dL_law_265 dL_law_266 ?_
      refine lfe (n := 2) hz hX hbl hS hl (by omega) hL hx2 (by decide) dL_law_267 dL_law_268 dL_law_269 dL_law_270 dL_law_271 ?_
      refine ifF hz ht0 dL_law_272 (by decide : ((272 : Nat) : Int) + 7 = ((279 : Nat) : Int)) ?_
      refine lv_iconst (v := bI true) hz.1 hz.2.1 dL_law_275 (by decide) ?_
      refine lv_goto (tgt := 280) hz.1 hz.2.1 dL_law_276 (by decide) ?_
      refine wrV (A := lA s_) (As := [.int x1, .int (bI true)]) (rest := []) hz (okAm tS sk sv) (c5_guard_bad l_ D k a tS sk sv C F E ((G 0)) x1 true hB.2 hB.1 hb) (cwV 2 hz.2.2.2.2 gL_law_X5_guard rfl rfl rfl (by decide +kernel) ⟨Nat.le_of_ble_eq_true rfl, Nat.le_of_ble_eq_true rfl⟩) hK hy (p0.app p1) (D_ix ha [0, 1, 2, 3, 4, 5, 6, 7, 8] rfl (by decide) (by decide)) hS 0 5 rfl rfl rfl rfl hl.1 rfl (Nat.le_of_ble_eq_true rfl) dL_law_280 ⟨Nat.le_of_ble_eq_true rfl, Nat.le_of_ble_eq_true rfl⟩ (fun r u H1 locs hp hP1 hS hfr => ?_)
      obtain rfl : r = -2 := hp
      have p0 := hP1.left
      have hP1 := hP1.right
      have p1 := hP1
      have kp : ∀ (g_ : va_W) (jx : List Nat), g_.map (fun q => q.1) = jx.map a → (∀ j ∈ jx, j < 54) → (∀ j ∈ jx, j ∉ ([0, 1, 2, 3, 4, 5, 6, 7, 8] : List Nat)) → va_P D vwCl g_ H → va_P D vwCl g_ H1 := fun g_ jx h1 h2 h3 h4 => keepG (wc := ho a C ++ (bw a 1 k F E)) ha [0, 1, 2, 3, 4, 5, 6, 7, 8] jx rfl h1 (by decide) h2 h3 h4 hfr
      have p2 := kp _ [9, 10, 11, 12, 13, 14, 15, 16] rfl (by decide) (by decide) p2
      have p3 := kp _ [17] rfl (by decide) (by decide) p3
      have p4 := kp _ [18, 19, 20, 21, 22, 23, 24, 25] rfl (by decide) (by decide) p4
      have p5 := kp _ [26, 27, 28, 29, 30, 31, 32, 33] rfl (by decide) (by decide) p5
      have p6 := kp _ [34] rfl (by decide) (by decide) p6
      have p7 := kp _ [35, 36] rfl (by decide) (by decide) p7
      have p8 := kp _ [37, 38] rfl (by decide) (by decide) p8
      have p9 := kp _ [39, 40, 41, 42, 43, 44, 45, 46, 47, 48, 49, 50, 51, 52] rfl (by decide) (by decide) p9
      have p10 := kp _ [53] rfl (by decide) (by decide) p10
      have pm := keepX (wc := ho a C ++ (bw a 1 k F E)) (g := mw b k I J G) hab [0, 1, 2, 3, 4, 5, 6, 7, 8] [0, 1, 2, 3, 4, 5, 6, 7, 8, 9, 10, 11, 12] rfl rfl (by decide) (by decide) pm hfr
      refine lv_aload_n hz.1 hz.2.1 dL_law_283 rfl (lv_at hl 2 rfl) ?_
      refine lfe (n := 1) hz hX hbl hS hl (by omega) hL hx1 (by decide) dL_law_284 dL_law_285 dL_law_286 dL_law_287 dL_law_288 ?_
      refine lfe (n := 2) hz hX hbl hS hl (by omega) hL hx2 (by decide) dL_law_289 dL_law_290 dL_law_291 dL_law_292 dL_law_293 ?_
      refine ifF hz ht0 dL_law_294 (by decide : ((294 : Nat) : Int) + 7 = ((301 : Nat) : Int)) ?_
      refine lv_iconst (v := bI true) hz.1 hz.2.1 dL_law_297 (by decide) ?_
      refine lv_goto (tgt := 302) hz.1 hz.2.1 dL_law_298 (by decide) ?_
      refine wrV (A := lA s_) (As := [.int x1, .int (bI true)]) (rest := [.int (-2)]) hz okYT (c6_guard_bad l_ D k b I J G x1 true hB.1 hb) (cwV 2 hz.2.2.2.2 gL_law_X6_guard rfl rfl rfl (by decide +kernel) ⟨Nat.le_of_ble_eq_true rfl, Nat.le_of_ble_eq_true rfl⟩) hK trivial pm (D_ix hbk [0, 1, 2, 3, 4, 5, 6, 7, 8, 9, 10, 11, 12] rfl (by decide) (by decide)) hS 0 6 rfl rfl rfl rfl hl.1 rfl (Nat.le_of_ble_eq_true rfl) dL_law_302 ⟨Nat.le_of_ble_eq_true rfl, Nat.le_of_ble_eq_true rfl⟩ (fun r u H1 locs hp hP1 hS hfr => ?_)
      obtain rfl : r = -2 := hp
      have pm := hP1
      have pc_ : CPs D k a (nset C 0 (C 0 + 1)) F E Fd Ed Fp Ep Fq Eg K X ((G 9)) Z S Rr Y Nt Sl Mt Ch Q H1 := CPs.kept ⟨p0, p1, p2, p3, p4, p5, p6, p7, p8, p9, p10⟩ hba hfr
      obtain ⟨p0, p1, p2, p3, p4, p5, p6, p7, p8, p9, p10⟩ := pc_
      refine cmpE (tgt := 1063) hz (rfl) dL_law_305 (by decide) ?_
      exact hk _ _ ⟨nset C 0 (C 0 + 1), F, E, Fd, Ed, Fp, Ep, Fq, Eg, K, X, (G 9), Z, S, Rr, Y, Nt, Sl, Mt, Ch, Q, I, J, gset G 3 (sRef (G 3) 0), ⟨hB, hC.s0, hT, hQ, hM, hU⟩, ⟨p0, p1, p2, p3, p4, p5, p6, p7, p8, p9, p10⟩, pm⟩ hS ls hl
    · have hb1 := hb
      obtain ⟨p, ⟨pl, ph⟩, rfl⟩ := wIn_t (by omega) (by omega) hb1
      by_cases hg : (G 0 2).testBit p = true
      · refine lv_aload_n hz.1 hz.2.1 dL_law_261 rfl (lv_at hl 1 rfl) ?_
        refine lfe (n := 1) hz hX hbl hS hl (by omega) hL hx1 (by decide) dL_law_262 dL_law_263 dL_law_264 dL_law_265 dL_law_266 ?_
        refine lfe (n := 2) hz hX hbl hS hl (by omega) hL hx2 (by decide) dL_law_267 dL_law_268 dL_law_269 dL_law_270 dL_law_271 ?_
        refine ifF hz ht0 dL_law_272 (by decide : ((272 : Nat) : Int) + 7 = ((279 : Nat) : Int)) ?_
        refine lv_iconst (v := bI true) hz.1 hz.2.1 dL_law_275 (by decide) ?_
        refine lv_goto (tgt := 280) hz.1 hz.2.1 dL_law_276 (by decide) ?_
        refine wrV (A := lA s_) (As := [.int (nI p), .int (bI true)]) (rest := []) hz (okAm tS sk sv) (c5_guard_no l_ D k a tS sk sv C F E ((G 0)) p true hB.2 hB.1 (by omega) hg) (cwV 2 hz.2.2.2.2 gL_law_X5_guard rfl rfl rfl (by decide +kernel) ⟨Nat.le_of_ble_eq_true rfl, Nat.le_of_ble_eq_true rfl⟩) hK hy (p0.app p1) (D_ix ha [0, 1, 2, 3, 4, 5, 6, 7, 8] rfl (by decide) (by decide)) hS 0 5 rfl rfl rfl rfl hl.1 rfl (Nat.le_of_ble_eq_true rfl) dL_law_280 ⟨Nat.le_of_ble_eq_true rfl, Nat.le_of_ble_eq_true rfl⟩ (fun r u H1 locs hp hP1 hS hfr => ?_)
        obtain rfl : r = -3 := hp
        have p0 := hP1.left
        have hP1 := hP1.right
        have p1 := hP1
        have kp : ∀ (g_ : va_W) (jx : List Nat), g_.map (fun q => q.1) = jx.map a → (∀ j ∈ jx, j < 54) → (∀ j ∈ jx, j ∉ ([0, 1, 2, 3, 4, 5, 6, 7, 8] : List Nat)) → va_P D vwCl g_ H → va_P D vwCl g_ H1 := fun g_ jx h1 h2 h3 h4 => keepG (wc := ho a C ++ (bw a 1 k F E)) ha [0, 1, 2, 3, 4, 5, 6, 7, 8] jx rfl h1 (by decide) h2 h3 h4 hfr
        have p2 := kp _ [9, 10, 11, 12, 13, 14, 15, 16] rfl (by decide) (by decide) p2
        have p3 := kp _ [17] rfl (by decide) (by decide) p3
        have p4 := kp _ [18, 19, 20, 21, 22, 23, 24, 25] rfl (by decide) (by decide) p4
        have p5 := kp _ [26, 27, 28, 29, 30, 31, 32, 33] rfl (by decide) (by decide) p5
        have p6 := kp _ [34] rfl (by decide) (by decide) p6
        have p7 := kp _ [35, 36] rfl (by decide) (by decide) p7
        have p8 := kp _ [37, 38] rfl (by decide) (by decide) p8
        have p9 := kp _ [39, 40, 41, 42, 43, 44, 45, 46, 47, 48, 49, 50, 51, 52] rfl (by decide) (by decide) p9
        have p10 := kp _ [53] rfl (by decide) (by decide) p10
        have pm := keepX (wc := ho a C ++ (bw a 1 k F E)) (g := mw b k I J G) hab [0, 1, 2, 3, 4, 5, 6, 7, 8] [0, 1, 2, 3, 4, 5, 6, 7, 8, 9, 10, 11, 12] rfl rfl (by decide) (by decide) pm hfr
        refine lv_aload_n hz.1 hz.2.1 dL_law_283 rfl (lv_at hl 2 rfl) ?_
        refine lfe (n := 1) hz hX hbl hS hl (by omega) hL hx1 (by decide) dL_law_284 dL_law_285 dL_law_286 dL_law_287 dL_law_288 ?_
        refine lfe (n := 2) hz hX hbl hS hl (by omega) hL hx2 (by decide) dL_law_289 dL_law_290 dL_law_291 dL_law_292 dL_law_293 ?_
        refine ifF hz ht0 dL_law_294 (by decide : ((294 : Nat) : Int) + 7 = ((301 : Nat) : Int)) ?_
        refine lv_iconst (v := bI true) hz.1 hz.2.1 dL_law_297 (by decide) ?_
        refine lv_goto (tgt := 302) hz.1 hz.2.1 dL_law_298 (by decide) ?_
        refine wrV (A := lA s_) (As := [.int (nI p), .int (bI true)]) (rest := [.int (-3)]) hz okYT (c6_guard_no l_ D k b I J G p true hB.1 (by omega) hg) (cwV 2 hz.2.2.2.2 gL_law_X6_guard rfl rfl rfl (by decide +kernel) ⟨Nat.le_of_ble_eq_true rfl, Nat.le_of_ble_eq_true rfl⟩) hK trivial pm (D_ix hbk [0, 1, 2, 3, 4, 5, 6, 7, 8, 9, 10, 11, 12] rfl (by decide) (by decide)) hS 0 6 rfl rfl rfl rfl hl.1 rfl (Nat.le_of_ble_eq_true rfl) dL_law_302 ⟨Nat.le_of_ble_eq_true rfl, Nat.le_of_ble_eq_true rfl⟩ (fun r u H1 locs hp hP1 hS hfr => ?_)
        obtain rfl : r = -3 := hp
        have pm := hP1
        have pc_ : CPs D k a (nset C 1 (C 1 + 1)) F E Fd Ed Fp Ep Fq Eg K X ((G 9)) Z S Rr Y Nt Sl Mt Ch Q H1 := CPs.kept ⟨p0, p1, p2, p3, p4, p5, p6, p7, p8, p9, p10⟩ hba hfr
        obtain ⟨p0, p1, p2, p3, p4, p5, p6, p7, p8, p9, p10⟩ := pc_
        refine cmpE (tgt := 1063) hz (rfl) dL_law_305 (by decide) ?_
        exact hk _ _ ⟨nset C 1 (C 1 + 1), F, E, Fd, Ed, Fp, Ep, Fq, Eg, K, X, (G 9), Z, S, Rr, Y, Nt, Sl, Mt, Ch, Q, I, J, gset G 3 (sRef (G 3) 1), ⟨hB, hC.s1, hT, hQ, hM, hU⟩, ⟨p0, p1, p2, p3, p4, p5, p6, p7, p8, p9, p10⟩, pm⟩ hS ls hl
      · refine lv_aload_n hz.1 hz.2.1 dL_law_261 rfl (lv_at hl 1 rfl) ?_
        refine lfe (n := 1) hz hX hbl hS hl (by omega) hL hx1 (by decide) dL_law_262 dL_law_263 dL_law_264 dL_law_265 dL_law_266 ?_
        refine lfe (n := 2) hz hX hbl hS hl (by omega) hL hx2 (by decide) dL_law_267 dL_law_268 dL_law_269 dL_law_270 dL_law_271 ?_
        refine ifF hz ht0 dL_law_272 (by decide : ((272 : Nat) : Int) + 7 = ((279 : Nat) : Int)) ?_
        refine lv_iconst (v := bI true) hz.1 hz.2.1 dL_law_275 (by decide) ?_
        refine lv_goto (tgt := 280) hz.1 hz.2.1 dL_law_276 (by decide) ?_
        refine wrV (A := lA s_) (As := [.int (nI p), .int (bI true)]) (rest := []) hz (okAm tS sk sv) (c5_guard_ok l_ D k a tS sk sv C F E ((G 0)) p true hB.2 hB.1 (by omega) hg) (cwV 2 hz.2.2.2.2 gL_law_X5_guard rfl rfl rfl (by decide +kernel) ⟨Nat.le_of_ble_eq_true rfl, Nat.le_of_ble_eq_true rfl⟩) hK hy (p0.app p1) (D_ix ha [0, 1, 2, 3, 4, 5, 6, 7, 8] rfl (by decide) (by decide)) hS 0 5 rfl rfl rfl rfl hl.1 rfl (Nat.le_of_ble_eq_true rfl) dL_law_280 ⟨Nat.le_of_ble_eq_true rfl, Nat.le_of_ble_eq_true rfl⟩ (fun r u H1 locs hp hP1 hS hfr => ?_)
        obtain rfl : r = nI 1 := hp
        have p0 := hP1.left
        have hP1 := hP1.right
        have p1 := hP1
        have kp : ∀ (g_ : va_W) (jx : List Nat), g_.map (fun q => q.1) = jx.map a → (∀ j ∈ jx, j < 54) → (∀ j ∈ jx, j ∉ ([0, 1, 2, 3, 4, 5, 6, 7, 8] : List Nat)) → va_P D vwCl g_ H → va_P D vwCl g_ H1 := fun g_ jx h1 h2 h3 h4 => keepG (wc := ho a C ++ (bw a 1 k F E)) ha [0, 1, 2, 3, 4, 5, 6, 7, 8] jx rfl h1 (by decide) h2 h3 h4 hfr
        have p2 := kp _ [9, 10, 11, 12, 13, 14, 15, 16] rfl (by decide) (by decide) p2
        have p3 := kp _ [17] rfl (by decide) (by decide) p3
        have p4 := kp _ [18, 19, 20, 21, 22, 23, 24, 25] rfl (by decide) (by decide) p4
        have p5 := kp _ [26, 27, 28, 29, 30, 31, 32, 33] rfl (by decide) (by decide) p5
        have p6 := kp _ [34] rfl (by decide) (by decide) p6
        have p7 := kp _ [35, 36] rfl (by decide) (by decide) p7
        have p8 := kp _ [37, 38] rfl (by decide) (by decide) p8
        have p9 := kp _ [39, 40, 41, 42, 43, 44, 45, 46, 47, 48, 49, 50, 51, 52] rfl (by decide) (by decide) p9
        have p10 := kp _ [53] rfl (by decide) (by decide) p10
        have pm := keepX (wc := ho a C ++ (bw a 1 k F E)) (g := mw b k I J G) hab [0, 1, 2, 3, 4, 5, 6, 7, 8] [0, 1, 2, 3, 4, 5, 6, 7, 8, 9, 10, 11, 12] rfl rfl (by decide) (by decide) pm hfr
        refine lv_aload_n hz.1 hz.2.1 dL_law_283 rfl (lv_at hl 2 rfl) ?_
        refine lfe (n := 1) hz hX hbl hS hl (by omega) hL hx1 (by decide) dL_law_284 dL_law_285 dL_law_286 dL_law_287 dL_law_288 ?_
        refine lfe (n := 2) hz hX hbl hS hl (by omega) hL hx2 (by decide) dL_law_289 dL_law_290 dL_law_291 dL_law_292 dL_law_293 ?_
        refine ifF hz ht0 dL_law_294 (by decide : ((294 : Nat) : Int) + 7 = ((301 : Nat) : Int)) ?_
        refine lv_iconst (v := bI true) hz.1 hz.2.1 dL_law_297 (by decide) ?_
        refine lv_goto (tgt := 302) hz.1 hz.2.1 dL_law_298 (by decide) ?_
        refine wrV (A := lA s_) (As := [.int (nI p), .int (bI true)]) (rest := [.int (nI 1)]) hz okYT (c6_guard_ok l_ D k b I J G p true hB.1 (by omega) hg) (cwV 2 hz.2.2.2.2 gL_law_X6_guard rfl rfl rfl (by decide +kernel) ⟨Nat.le_of_ble_eq_true rfl, Nat.le_of_ble_eq_true rfl⟩) hK trivial pm (D_ix hbk [0, 1, 2, 3, 4, 5, 6, 7, 8, 9, 10, 11, 12] rfl (by decide) (by decide)) hS 0 6 rfl rfl rfl rfl hl.1 rfl (Nat.le_of_ble_eq_true rfl) dL_law_302 ⟨Nat.le_of_ble_eq_true rfl, Nat.le_of_ble_eq_true rfl⟩ (fun r u H1 locs hp hP1 hS hfr => ?_)
        obtain rfl : r = nI 1 := hp
        have pm := hP1
        have pc_ : CPs D k a C (nset F 2 ((G 0) 2 ^^^ 2 ^ p)) E Fd Ed Fp Ep Fq Eg K X ((G 9)) Z S Rr Y Nt Sl Mt Ch Q H1 := CPs.kept ⟨p0, p1, p2, p3, p4, p5, p6, p7, p8, p9, p10⟩ hba hfr
        obtain ⟨p0, p1, p2, p3, p4, p5, p6, p7, p8, p9, p10⟩ := pc_
        refine cmpE (tgt := 1063) hz (rfl) dL_law_305 (by decide) ?_
        exact hk _ _ ⟨C, nset F 2 ((G 0) 2 ^^^ 2 ^ p), E, Fd, Ed, Fp, Ep, Fq, Eg, K, X, (G 9), Z, S, Rr, Y, Nt, Sl, Mt, Ch, Q, I, J, gset G 0 (nset (G 0) 2 (G 0 2 ^^^ 2 ^ p)), ⟨⟨hB.1.small (Or.inr (Or.inl ⟨rfl, Nat.xor_lt_two_pow hB.1.2.2.1 (Nat.pow_lt_pow_right (by decide) (by omega))⟩)), hB.2.guard _⟩, hC, hT, hQ, hM, hU⟩, ⟨p0, p1, p2, p3, p4, p5, p6, p7, p8, p9, p10⟩, pm⟩ hS ls hl
