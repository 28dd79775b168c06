/-! START: what the law finds at its start -/
theorem nestM_in : ∀ q ∈ nestM, Cond.methodLinkNest q.1 q.2.1 q.2.2 "BorderHarp" ∈ lw_tbl := by decide +kernel
theorem nestF_in : ∀ q ∈ nestF, Cond.fieldLinkNest q.1 q.2 "BorderHarp" "STRENGTHS" "[I" "BorderHarp" ∈ lw_tbl := by decide +kernel
theorem six {i : Nat} (h : i < 6) : i = 0 ∨ i = 1 ∨ i = 2 ∨ i = 3 ∨ i = 4 ∨ i = 5 := by omega
theorem law_NL {s : State} {b : Nat} (hts : ∀ w ∈ lw_tbl, w.before #[Value.ref b] s = true) : NL s := ⟨fun q hq => va_Nw.of rfl (hts _ (nestM_in q hq)), va_AO.of (hts (.arrayOver (.object "BorderHarp$Border")) (by decide +kernel)), va_AOA.of (hts (.arrayOver (.array .int)) (by decide +kernel))⟩
set_option maxHeartbeats 4000000 in
set_option maxRecDepth 100000 in
theorem law_S {s : State} {b : Nat} (hs : ∀ w ∈ flatC (Jvm.Cond.and given_1 narrow_1), w.before #[Value.ref b] s = true) : ∃ sk sv : Nat → Nat, vk_S 6 wdLen wdByt sk sv (lA s) s s.heap ∧ ∀ i, i < 6 → (Term.string RX1 (wdIx.getD i 0)).eval #[Value.ref b] s none [] s = some (.ref (sk i)) := by
  have hA : ∀ a : Nat, a < s.heap.size → ¬ lA s a := fun a h => Nat.not_le.mpr h
  refine vk_Sof (args := #[Value.ref b]) (N := 6) (tm := fun i => Term.string RX1 (wdIx.getD i 0)) (len := wdLen) (byt := wdByt) (fun i hi => ?_) (fun i hi => ?_) (fun i hi => ?_) (fun i hi => ?_) (fun i hi => ?_) (fun i hi j hj => ?_) (fun i j hi hj hij => ?_) hA
  · rcases six hi with rfl | rfl | rfl | rfl | rfl | rfl <;> decide
  · rcases six hi with rfl | rfl | rfl | rfl | rfl | rfl <;> exact hs _ (by decide +kernel)
  · rcases six hi with rfl | rfl | rfl | rfl | rfl | rfl <;> exact hs _ (by decide +kernel)
  · rcases six hi with rfl | rfl | rfl | rfl | rfl | rfl <;> exact hs _ (by decide +kernel)
  · rcases six hi with rfl | rfl | rfl | rfl | rfl | rfl <;> exact hs _ (by decide +kernel)
  · rcases six hi with rfl | rfl | rfl | rfl | rfl | rfl
    · have hj : j < 5 := hj
      rcases (show j = 0 ∨ j = 1 ∨ j = 2 ∨ j = 3 ∨ j = 4 by omega) with rfl | rfl | rfl | rfl | rfl <;> exact hs _ (by decide +kernel)
    · have hj : j < 4 := hj
      rcases (show j = 0 ∨ j = 1 ∨ j = 2 ∨ j = 3 by omega) with rfl | rfl | rfl | rfl <;> exact hs _ (by decide +kernel)
    · have hj : j < 5 := hj
      rcases (show j = 0 ∨ j = 1 ∨ j = 2 ∨ j = 3 ∨ j = 4 by omega) with rfl | rfl | rfl | rfl | rfl <;> exact hs _ (by decide +kernel)
    · have hj : j < 5 := hj
      rcases (show j = 0 ∨ j = 1 ∨ j = 2 ∨ j = 3 ∨ j = 4 by omega) with rfl | rfl | rfl | rfl | rfl <;> exact hs _ (by decide +kernel)
    · have hj : j < 4 := hj
      rcases (show j = 0 ∨ j = 1 ∨ j = 2 ∨ j = 3 by omega) with rfl | rfl | rfl | rfl <;> exact hs _ (by decide +kernel)
    · have hj : j < 4 := hj
      rcases (show j = 0 ∨ j = 1 ∨ j = 2 ∨ j = 3 by omega) with rfl | rfl | rfl | rfl <;> exact hs _ (by decide +kernel)
  · rcases six hi with rfl | rfl | rfl | rfl | rfl | rfl <;> rcases six hj with rfl | rfl | rfl | rfl | rfl | rfl <;> first | exact absurd rfl hij | exact Or.inl (hs _ (by decide +kernel)) | exact Or.inr (hs _ (by decide +kernel))
set_option maxHeartbeats 4000000 in
set_option maxRecDepth 100000 in
theorem law_Am {s : State} {b : Nat} (hts : ∀ w ∈ lw_tbl, w.before #[Value.ref b] s = true) (hs : ∀ w ∈ flatC (Jvm.Cond.and given_1 narrow_1), w.before #[Value.ref b] s = true) : ∃ (tS : Nat) (sk sv : Nat → Nat), Am tS sk sv (lA s) s s.heap := by
  have hA : ∀ a : Nat, a < s.heap.size → ¬ lA s a := fun a h => Nat.not_le.mpr h
  obtain ⟨sk, sv, h1, h2⟩ := law_S hs
  obtain ⟨tS, ht, hT⟩ := va_Tof (args := #[Value.ref b]) (tm := Term.static "BorderHarp" "STRENGTHS" "[I") (ty := .int) (N := 4) (f := fun j => .int (nI (sStr j))) (A := lA s) (by decide) (hs (.arrayOf (.static "BorderHarp" "STRENGTHS" "[I") .int) (by decide +kernel)) (va_eqt (hs (.eq (.length (.static "BorderHarp" "STRENGTHS" "[I")) (.int 4)) (by decide +kernel))) (fun j hj => by
    rcases (show j = 0 ∨ j = 1 ∨ j = 2 ∨ j = 3 by omega) with rfl | rfl | rfl | rfl
    · exact va_eqt (z := 1) (hs (.eq (.elem (.static "BorderHarp" "STRENGTHS" "[I") (.int 0)) (.int 1)) (by decide +kernel))
    · exact va_eqt (z := 2) (hs (.eq (.elem (.static "BorderHarp" "STRENGTHS" "[I") (.int 1)) (.int 2)) (by decide +kernel))
    · exact va_eqt (z := 3) (hs (.eq (.elem (.static "BorderHarp" "STRENGTHS" "[I") (.int 2)) (.int 3)) (by decide +kernel))
    · exact va_eqt (z := 3) (hs (.eq (.elem (.static "BorderHarp" "STRENGTHS" "[I") (.int 3)) (.int 3)) (by decide +kernel))) hA
  refine ⟨tS, sk, sv, ⟨fun q hq => va_Nw.of rfl (hts _ (nestM_in q hq)), fun q hq => va_Nw.of rfl (hts _ (nestF_in q hq)), fun i hi => ?_⟩, va_Zref (hts (.laysStatic "BorderHarp" "STRENGTHS" "[I") (by decide +kernel)) (hts (.initialized "BorderHarp") (by decide +kernel)) ht hA, hT, h1, va_Zof (hts (.laysStatic "java/lang/String" "COMPACT_STRINGS" "Z") (by decide +kernel)) (hts (.initialized "java/lang/String") (by decide +kernel)) (va_eqi (hs (.eq (.static "java/lang/String" "COMPACT_STRINGS" "Z") (.int 1)) (by decide +kernel))) hA, va_Zqof (hts (.laysStatic "jdk/internal/util/Preconditions" "SIOOBE_FORMATTER" "Ljava/util/function/BiFunction;") (by decide +kernel)) (hts (.initialized "jdk/internal/util/Preconditions") (by decide +kernel)) (hs (.isRef (.static "jdk/internal/util/Preconditions" "SIOOBE_FORMATTER" "Ljava/util/function/BiFunction;")) (by decide +kernel)) hA⟩
  have h3 := h2 i hi
  rcases six hi with rfl | rfl | rfl | rfl | rfl | rfl
  · exact vk_R.of (hts (.stringRef RX1 38 "posts") (by decide +kernel)) h3
  · exact vk_R.of (hts (.stringRef RX1 58 "wire") (by decide +kernel)) h3
  · exact vk_R.of (hts (.stringRef RX1 63 "frost") (by decide +kernel)) h3
  · exact vk_R.of (hts (.stringRef RX1 68 "guard") (by decide +kernel)) h3
  · exact vk_R.of (hts (.stringRef RX1 73 "wind") (by decide +kernel)) h3
  · exact vk_R.of (hts (.stringRef RX1 78 "pass") (by decide +kernel)) h3
/-- the array classes -/
theorem law_K {s : State} {b : Nat} (hts : ∀ w ∈ lw_tbl, w.before #[Value.ref b] s = true) : ∃ (D : va_G) (k : Nat → ClassId), va_K D vwCl (tyL k) s := by
  obtain ⟨c0, iS0, hKn0⟩ := u_known (C := RX0) (T := TX0) (N := 12) (n := 12) hts inX0 (hts (.instantiable RX0 12) (by decide +kernel))
  obtain ⟨c1, iS1, hKn1⟩ := u_known (C := RX1) (T := TX1) (N := 5) (n := 5) hts inX1 (hts (.instantiable RX1 5) (by decide +kernel))
  obtain ⟨c2, iS2, hKn2⟩ := u_known (C := RX2) (T := TX2) (N := 2) (n := 2) hts inX2 (hts (.instantiable RX2 2) (by decide +kernel))
  obtain ⟨c3, iS3, hKn3⟩ := u_known (C := RX3) (T := TX3) (N := 5) (n := 5) hts inX3 (hts (.instantiable RX3 5) (by decide +kernel))
  obtain ⟨c4, iS4, hKn4⟩ := u_known (C := RX4) (T := TX4) (N := 4) (n := 4) hts inX4 (hts (.instantiable RX4 4) (by decide +kernel))
  obtain ⟨c5, iS5, hKn5⟩ := u_known (C := RX5) (T := TX5) (N := 11) (n := 11) hts inX5 (hts (.instantiable RX5 11) (by decide +kernel))
  obtain ⟨c6, iS6, hKn6⟩ := u_known (C := RX6) (T := TX6) (N := 19) (n := 19) hts inX6 (hts (.instantiable RX6 19) (by decide +kernel))
  obtain ⟨k0, kc0, cm0, ka0, kb0, kk0⟩ := Cond.arrayClass_spec (hts (.arrayClass .int) (by decide +kernel))
  obtain ⟨k1, kc1, cm1, ka1, kb1, kk1⟩ := Cond.arrayClass_spec (hts (.arrayClass .byte) (by decide +kernel))
  obtain ⟨k2, kc2, cm2, ka2, kb2, kk2⟩ := Cond.arrayClass_spec (hts (.arrayClass .boolean) (by decide +kernel))
  obtain ⟨cm3, k3, kc3, ka3, _, kb3, kk3, kn3⟩ := Cond.arrayOver_spec (hts (.arrayOver (.object "BorderHarp$Border")) (by decide +kernel))
  obtain ⟨cm4, k4, kc4, ka4, _, kb4, kk4, kn4⟩ := aoa_spec (hts (.arrayOver (.array .int)) (by decide +kernel))
  refine ⟨(fun j => [c0, c1, c2, c3, c4, c5, c6].getD j c0, fun j => [iS0, iS1, iS2, iS3, iS4, iS5, iS6].getD j iS0), fun j => [k0, k1, k2, k3, k4].getD j k0, fun j q hq => ?_, fun j q hq => ?_⟩
  · match j, hq with
    | 0, hq => cases hq; exact hKn0
    | 1, hq => cases hq; exact hKn1
    | 2, hq => cases hq; exact hKn2
    | 3, hq => cases hq; exact hKn3
    | 4, hq => cases hq; exact hKn4
    | 5, hq => cases hq; exact hKn5
    | 6, hq => cases hq; exact hKn6
    | j + 7, hq => simp [vwCl] at hq
  · match j, hq with
    | 0, hq => cases hq; exact ⟨fun _ _ => ⟨(fun _ h => by cases h), kc0, kb0, cm0, kk0⟩, ka0⟩
    | 1, hq => cases hq; exact ⟨fun _ _ => ⟨(fun _ h => by cases h), kc1, kb1, cm1, kk1⟩, ka1⟩
    | 2, hq => cases hq; exact ⟨fun _ _ => ⟨(fun _ h => by cases h), kc2, kb2, cm2, kk2⟩, ka2⟩
    | 3, hq => cases hq; exact ⟨fun _ _ => ⟨(fun _ h => by cases h), kc3, kb3, cm3, kk3⟩, kc3, cm3, kb3, kk3, ka3, kn3⟩
    | 4, hq => cases hq; exact ⟨fun _ _ => ⟨(fun _ h => by cases h), kc4, kb4, cm4, kk4⟩, kn4⟩
    | j + 5, hq => simp [tyL] at hq
theorem D_aOK {A : Nat → Prop} {a : Nat → Nat} {N : Nat} {ws : va_W} (h : ws.map (fun q => q.1) = (List.range N).map a) (hD : va_D A ws) : aOK A a N := by
  have key : ∀ i, i < N → ∃ q, ws[i]? = some q ∧ q.1 = a i := by
    intro i hi
    have h1 : (ws.map (fun q => q.1))[i]? = some (a i) := by rw [h, List.getElem?_map, List.getElem?_range hi]; rfl
    rw [List.getElem?_map] at h1
    cases hw : ws[i]? with
    | none => rw [hw] at h1; cases h1
    | some q => rw [hw] at h1; exact ⟨q, rfl, Option.some.inj h1⟩
  refine ⟨fun i j hi hj hij => ?_, fun i hi => ?_⟩
  · obtain ⟨p, h1, h2⟩ := key i hi
    obtain ⟨q, h3, h4⟩ := key j hj
    exact hD.1 i j p q h1 h3 (by rw [h2, h4, hij])
  · obtain ⟨q, h1, h2⟩ := key i hi
    rw [← h2]; exact hD.2 i q h1
theorem D_apart {A : Nat → Prop} {w1 w2 : va_W} (hD : va_D A (w1 ++ w2)) {p q : Nat} (hp : wA w1 p) (hq : wA w2 q) : p ≠ q := by
  obtain ⟨i, e1, h1⟩ := hp
  obtain ⟨j, e2, h2⟩ := hq
  intro z
  have hi : i < w1.length := (List.getElem?_eq_some_iff.mp h1).1
  have h3 := hD.1 i (w1.length + j) (p, e1) (q, e2) (by rw [List.getElem?_append_left hi]; exact h1) (by rw [List.getElem?_append_right (by omega), Nat.add_sub_cancel_left]; exact h2) z
  omega
theorem wA_of_ix {a : Nat → Nat} {N : Nat} {ws : va_W} (h : ws.map (fun q => q.1) = (List.range N).map a) {i : Nat} (hi : i < N) : wA ws (a i) := by
  have h1 : (ws.map (fun q => q.1))[i]? = some (a i) := by rw [h, List.getElem?_map, List.getElem?_range hi]; rfl
  rw [List.getElem?_map] at h1
  cases hw : ws[i]? with
  | none => rw [hw] at h1; cases h1
  | some q => rw [hw] at h1; have e3 := Option.some.inj h1; exact ⟨i, q.2, by rw [hw, ← e3]⟩
theorem va_D.left {A : Nat → Prop} {w1 w2 : va_W} (h : va_D A (w1 ++ w2)) : va_D A w1 := ⟨fun i j p q hp hq => h.1 i j p q (by rw [List.getElem?_append_left (List.getElem?_eq_some_iff.mp hp).1]; exact hp) (by rw [List.getElem?_append_left (List.getElem?_eq_some_iff.mp hq).1]; exact hq), fun k q hk => h.2 k q (by rw [List.getElem?_append_left (List.getElem?_eq_some_iff.mp hk).1]; exact hk)⟩
theorem va_D.right {A : Nat → Prop} {w1 w2 : va_W} (h : va_D A (w1 ++ w2)) : va_D A w2 := ⟨fun i j p q hp hq e => by have := h.1 (w1.length + i) (w1.length + j) p q (by rw [List.getElem?_append_right (by omega), Nat.add_sub_cancel_left]; exact hp) (by rw [List.getElem?_append_right (by omega), Nat.add_sub_cancel_left]; exact hq) e; omega, fun k q hk => h.2 (w1.length + k) q (by rw [List.getElem?_append_right (by omega), Nat.add_sub_cancel_left]; exact hk)⟩
