/-! LOOP -/
theorem inlX5_ : ∀ w ∈ wsX50, w ∈ wsL_law := fun _ h => List.mem_append_left _ (List.mem_append_left _ (List.mem_append_left _ (List.mem_append_left _ (List.mem_append_left _ (List.mem_append_left _ (List.mem_append_left _ (List.mem_append_right _ h)))))))
theorem inlX6_ : ∀ w ∈ wsX60, w ∈ wsL_law := fun _ h => List.mem_append_left _ (List.mem_append_left _ (List.mem_append_left _ (List.mem_append_left _ (List.mem_append_left _ (List.mem_append_left _ (List.mem_append_right _ h))))))
theorem and31 (x : Int32) : ∃ j, j < 32 ∧ x &&& nI 31 = nI j := by
  refine ⟨(x &&& nI 31).toBitVec.toNat, ?_, ?_⟩
  · rw [Int32.toBitVec_and, BitVec.toNat_and, show (nI 31).toBitVec.toNat = 31 from rfl]
    exact Nat.lt_succ_of_le Nat.and_le_right
  · apply Int32.toBitVec_inj.mp
    show (x &&& nI 31).toBitVec = BitVec.ofNat 32 (x &&& nI 31).toBitVec.toNat
    rw [BitVec.ofNat_toNat, BitVec.setWidth_eq]
set_option maxHeartbeats 4000000 in
set_option maxRecDepth 100000 in
theorem law_case {p_ : Program} {l_ : Launch} {e_ : Env} {s_ : State} {m_ : MethodId} {bl_ : List Frame} {me_ : Method} {c_ : Code} {D : va_G} {k : Nat → ClassId} {a b : Nat → Nat} {b0 L : Nat} {xs : Nat → Int32} {tS : Nat} {sk sv : Nat → Nat} {i : Nat} (E0 : LE p_ s_ m_ c_ D k a b b0 L xs tS sk sv) (hi : i + 6 ≤ L) (hk : LK p_ l_ e_ s_ m_ bl_ me_ c_ D k a b b0 i 1063) : LK p_ l_ e_ s_ m_ bl_ me_ c_ D k a b b0 i 27 := by
  obtain ⟨hz, hX, hbl, hK, hy, ha, hb2, hab, hL⟩ := id E0
  intro H locs hI hS ls hl
  refine lv_aload_n hz.1 hz.2.1 dL_law_27 rfl (lv_at hl 0 rfl) ?_
  refine lv_iload_n hz.1 hz.2.1 dL_law_28 rfl (lv_at hl 3 rfl) ?_
  refine va_sld hz.1 hz.2.1 hX hbl (A := lA s_) (Nat.not_le.mpr hbl) hS (vp_in_nI (show i < L by omega) (by omega)) dL_law_29 ?_
  refine lv_bipush (v := nI 31) hz.1 hz.2.1 dL_law_30 (by decide) ?_
  refine lv_iand hz.1 hz.2.1 dL_law_32 ?_
  obtain ⟨j, hj, hje⟩ := and31 (xs (nI i).toNatClampNeg)
  refine toe (z := nI j) hje ?_
  rcases (show j = 0 ∨ j = 1 ∨ j = 2 ∨ j = 3 ∨ j = 4 ∨ j = 5 ∨ j = 6 ∨ j = 7 ∨ j = 8 ∨ j = 9 ∨ j = 10 ∨ j = 11 ∨ j = 12 ∨ j = 13 ∨ j = 14 ∨ j = 15 ∨ j = 16 ∨ j = 17 ∨ j = 18 ∨ j = 19 ∨ j = 20 ∨ j = 21 ∨ j = 22 ∨ j = 23 ∨ j = 24 ∨ j = 25 ∨ j = 26 ∨ j = 27 ∨ j = 28 ∨ j = 29 ∨ j = 30 ∨ j = 31 by omega) with rfl | rfl | rfl | rfl | rfl | rfl | rfl | rfl | rfl | rfl | rfl | rfl | rfl | rfl | rfl | rfl | rfl | rfl | rfl | rfl | rfl | rfl | rfl | rfl | rfl | rfl | rfl | rfl | rfl | rfl | rfl | rfl
  · refine lv_tableIn (off := 139) (tgt := 172) hz.1 hz.2.1 dL_law_33 (by decide) (by decide) (by decide) (by decide) ?_
    exact law_posts E0 hi hk H locs hI hS ls hl
  · refine lv_tableIn (off := 162) (tgt := 195) hz.1 hz.2.1 dL_law_33 (by decide) (by decide) (by decide) (by decide) ?_
    exact law_wire E0 hi hk H locs hI hS ls hl
  · refine lv_tableIn (off := 205) (tgt := 238) hz.1 hz.2.1 dL_law_33 (by decide) (by decide) (by decide) (by decide) ?_
    exact law_frost E0 hi hk H locs hI hS ls hl
  · refine lv_tableIn (off := 228) (tgt := 261) hz.1 hz.2.1 dL_law_33 (by decide) (by decide) (by decide) (by decide) ?_
    exact law_guard E0 hi hk H locs hI hS ls hl
  · refine lv_tableIn (off := 277) (tgt := 310) hz.1 hz.2.1 dL_law_33 (by decide) (by decide) (by decide) (by decide) ?_
    exact law_wind E0 hi hk H locs hI hS ls hl
  · refine lv_tableIn (off := 310) (tgt := 343) hz.1 hz.2.1 dL_law_33 (by decide) (by decide) (by decide) (by decide) ?_
    exact law_calm E0 hi hk H locs hI hS ls hl
  · refine lv_tableIn (off := 323) (tgt := 356) hz.1 hz.2.1 dL_law_33 (by decide) (by decide) (by decide) (by decide) ?_
    exact law_pass E0 hi hk H locs hI hS ls hl
  · refine lv_tableIn (off := 366) (tgt := 399) hz.1 hz.2.1 dL_law_33 (by decide) (by decide) (by decide) (by decide) ?_
    exact law_undo E0 hi hk H locs hI hS ls hl
  · refine lv_tableIn (off := 379) (tgt := 412) hz.1 hz.2.1 dL_law_33 (by decide) (by decide) (by decide) (by decide) ?_
    exact law_type E0 hi hk H locs hI hS ls hl
  · refine lv_tableIn (off := 442) (tgt := 475) hz.1 hz.2.1 dL_law_33 (by decide) (by decide) (by decide) (by decide) ?_
    exact law_clear E0 hi hk H locs hI hS ls hl
  · refine lv_tableIn (off := 455) (tgt := 488) hz.1 hz.2.1 dL_law_33 (by decide) (by decide) (by decide) (by decide) ?_
    exact law_read E0 hi hk H locs hI hS ls hl
  · refine lv_tableIn (off := 468) (tgt := 501) hz.1 hz.2.1 dL_law_33 (by decide) (by decide) (by decide) (by decide) ?_
    exact law_sounds E0 hi hk H locs hI hS ls hl
  · refine lv_tableIn (off := 511) (tgt := 544) hz.1 hz.2.1 dL_law_33 (by decide) (by decide) (by decide) (by decide) ?_
    exact law_away E0 hi hk H locs hI hS ls hl
  · refine lv_tableIn (off := 544) (tgt := 577) hz.1 hz.2.1 dL_law_33 (by decide) (by decide) (by decide) (by decide) ?_
    exact law_heard E0 hi hk H locs hI hS ls hl
  · refine lv_tableIn (off := 577) (tgt := 610) hz.1 hz.2.1 dL_law_33 (by decide) (by decide) (by decide) (by decide) ?_
    exact law_alarm E0 hi hk H locs hI hS ls hl
  · refine lv_tableIn (off := 600) (tgt := 633) hz.1 hz.2.1 dL_law_33 (by decide) (by decide) (by decide) (by decide) ?_
    exact law_which E0 hi hk H locs hI hS ls hl
  · refine lv_tableIn (off := 663) (tgt := 696) hz.1 hz.2.1 dL_law_33 (by decide) (by decide) (by decide) (by decide) ?_
    exact law_cover E0 hi hk H locs hI hS ls hl
  · refine lv_tableIn (off := 686) (tgt := 719) hz.1 hz.2.1 dL_law_33 (by decide) (by decide) (by decide) (by decide) ?_
    exact law_clashes E0 hi hk H locs hI hS ls hl
  · refine lv_tableIn (off := 699) (tgt := 732) hz.1 hz.2.1 dL_law_33 (by decide) (by decide) (by decide) (by decide) ?_
    exact law_retune E0 hi hk H locs hI hS ls hl
  · refine lv_tableIn (off := 712) (tgt := 745) hz.1 hz.2.1 dL_law_33 (by decide) (by decide) (by decide) (by decide) ?_
    exact law_slip E0 hi hk H locs hI hS ls hl
  · refine lv_tableIn (off := 735) (tgt := 768) hz.1 hz.2.1 dL_law_33 (by decide) (by decide) (by decide) (by decide) ?_
    exact law_lot E0 hi hk H locs hI hS ls hl
  · refine lv_tableIn (off := 778) (tgt := 811) hz.1 hz.2.1 dL_law_33 (by decide) (by decide) (by decide) (by decide) ?_
    exact law_surest E0 hi hk H locs hI hS ls hl
  · refine lv_tableIn (off := 811) (tgt := 844) hz.1 hz.2.1 dL_law_33 (by decide) (by decide) (by decide) (by decide) ?_
    exact law_whence E0 hi hk H locs hI hS ls hl
  · refine lv_tableIn (off := 854) (tgt := 887) hz.1 hz.2.1 dL_law_33 (by decide) (by decide) (by decide) (by decide) ?_
    exact law_doubled E0 hi hk H locs hI hS ls hl
  · refine lv_tableIn (off := 867) (tgt := 900) hz.1 hz.2.1 dL_law_33 (by decide) (by decide) (by decide) (by decide) ?_
    exact law_doubt E0 hi hk H locs hI hS ls hl
  · refine lv_tableIn (off := 900) (tgt := 933) hz.1 hz.2.1 dL_law_33 (by decide) (by decide) (by decide) (by decide) ?_
    exact law_part E0 hi hk H locs hI hS ls hl
  · refine lv_tableIn (off := 924) (tgt := 957) hz.1 hz.2.1 dL_law_33 (by decide) (by decide) (by decide) (by decide) ?_
    exact law_image E0 hi hk H locs hI hS ls hl
  · refine lv_tableIn (off := 947) (tgt := 980) hz.1 hz.2.1 dL_law_33 (by decide) (by decide) (by decide) (by decide) ?_
    exact law_from E0 hi hk H locs hI hS ls hl
  · refine lv_tableIn (off := 970) (tgt := 1003) hz.1 hz.2.1 dL_law_33 (by decide) (by decide) (by decide) (by decide) ?_
    exact law_status E0 hi hk H locs hI hS ls hl
  · refine lv_tableIn (off := 993) (tgt := 1026) hz.1 hz.2.1 dL_law_33 (by decide) (by decide) (by decide) (by decide) ?_
    exact law_count E0 hi hk H locs hI hS ls hl
  · refine lv_tableIn (off := 1016) (tgt := 1049) hz.1 hz.2.1 dL_law_33 (by decide) (by decide) (by decide) (by decide) ?_
    exact law_digest E0 hi hk H locs hI hS ls hl
  · refine lv_tableOut (tgt := 1063) hz.1 hz.2.1 dL_law_33 (by decide) (by decide) ?_
    exact hk H locs hI hS ls hl
set_option maxHeartbeats 4000000 in
set_option maxRecDepth 100000 in
theorem law_loop {p_ : Program} {l_ : Launch} {e_ : Env} {s_ : State} {m_ : MethodId} {bl_ : List Frame} {me_ : Method} {c_ : Code} {D : va_G} {k : Nat → ClassId} {a b : Nat → Nat} {b0 L : Nat} {xs : Nat → Int32} {tS : Nat} {sk sv : Nat → Nat} (E0 : LE p_ s_ m_ c_ D k a b b0 L xs tS sk sv) (hr : me_.sig.returnType = ret) (hlk : me_.locks = false) : ∀ (n i : Nat), i ≤ L + 6 → L + 7 ≤ i + n → LK p_ l_ e_ s_ m_ bl_ me_ c_ D k a b b0 i 18 := by
  obtain ⟨hz, hX, hbl, hK, hy, ha, hb2, hab, hL⟩ := id E0
  intro n
  induction n with
  | zero => intro i h1 h2; exact absurd h2 (by omega)
  | succ n ih =>
    intro i h1 h2 H locs hI hS ls hl
    refine lv_iload_n hz.1 hz.2.1 dL_law_18 rfl (lv_at hl 3 rfl) ?_
    refine lv_aload_n hz.1 hz.2.1 dL_law_19 rfl (lv_at hl 0 rfl) ?_
    refine va_slen hz.1 hz.2.1 hX hbl (A := lA s_) (Nat.not_le.mpr hbl) hS dL_law_20 ?_
    refine lv_bipush (v := nI 6) hz.1 hz.2.1 dL_law_21 (by decide) ?_
    refine lv_isub hz.1 hz.2.1 dL_law_23 ?_
    refine toe (z := nI L - nI 6) rfl ?_
    refine lv_icmp_gt (tgt := 1069) hz.1 hz.2.1 dL_law_24 (by decide) (fun c_ => ?_) (fun c_ => ?_)
    · refine lv_iconst (v := 1) hz.1 hz.2.1 dL_law_1069 (by decide) ?_
      refine va_forget (fun q hq => hS.2.2 q hq) ?_
      refine W.widen (k := 600000) (n := 7302249) (Nat.le_of_ble_eq_true rfl) (Nat.le_of_ble_eq_true rfl) ?_
      exact lw_ret hz.1 hz.2.1 hr hlk dL_law_1070
    · have hi : i + 6 ≤ L := by
        rw [fa_lt, pk_sub_toInt (by omega) (by decide), nI_toInt (by omega)] at c_
        omega
      refine law_case E0 hi ?_ H locs hI hS ls hl
      intro H locs hI hS ls hl
      refine lv_iinc (v := nI (i + 6)) (lv' := [(3, .int (nI (i + 6))), (0, .ref b0), (1, .ref (a 0)), (2, .ref (b 0))]) hz.1 hz.2.1 dL_law_1063 hl (k := 3) rfl (nI_add _ 6) (by decide) rfl (fun ls hl => ?_)
      refine lv_goto (tgt := 18) hz.1 hz.2.1 dL_law_1066 (by decide) ?_
      exact ih (i + 6) (by omega) (by omega) H locs hI hS ls (lv_sub hl [1, 2, 3, 0] rfl)
set_option maxHeartbeats 4000000 in
set_option maxRecDepth 100000 in
theorem wf_6 : Wf f6 := by
  refine ⟨⟨by decide, by decide⟩, by decide, by decide, fun w hw => ?_, ⟨by decide, fun i hi => absurd hi (Nat.not_lt_zero i)⟩, ⟨by decide, fun i hi => absurd hi (Nat.not_lt_zero i)⟩⟩
  rcases (show w = 0 ∨ w = 1 ∨ w = 2 ∨ w = 3 ∨ w = 4 ∨ w = 5 ∨ w = 6 ∨ w = 7 by omega) with rfl | rfl | rfl | rfl | rfl | rfl | rfl | rfl <;> decide
theorem rb_6 : Rb f6 f6 z2 := by
  refine ⟨⟨rfl, rfl, rfl, rfl, rfl⟩, fun i hi => ?_, fun i hi => absurd hi (Nat.not_lt_zero i), fun i hi => absurd hi (Nat.not_lt_zero i)⟩
  rcases (show i = 0 ∨ i = 1 ∨ i = 2 ∨ i = 3 ∨ i = 4 ∨ i = 5 ∨ i = 6 ∨ i = 7 by omega) with rfl | rfl | rfl | rfl | rfl | rfl | rfl | rfl <;> exact ⟨rfl, rfl⟩
theorem LI_0 {D : va_G} {k : Nat → ClassId} {a b : Nat → Nat} {H : Heap} (h1 : va_P D vwCl (cw a k z1 f6 z2 f6 z2 f6 z2 f6 z2 z1 z1 z1 (fun _ => 0) z1 z1 z1 z1 z1 z1 z2 q1) H) (h2 : va_P D vwCl (mw b k z1 q1 (gset z2 0 f6)) H) : LI D k a b H := by
  have h1 : va_P D vwCl (ho a z1 ++ (bw a 1 k f6 z2 ++ (bw a 9 k f6 z2 ++ (iw a k ++ (bw a 18 k f6 z2 ++ (bw a 26 k f6 z2 ++ (kw a k z1 ++ (tw a k z1 z1 ++ (ww a k (fun _ => 0) z1 z1 ++ (tu a k z1 z1 z1 z1 z2 ++ qw a q1)))))))))) H := h1
  exact ⟨z1, f6, z2, f6, z2, f6, z2, f6, z2, z1, z1, z1, fun _ => 0, z1, z1, z1, z1, z1, z1, z2, q1, z1, q1, gset z2 0 f6, ⟨⟨wf_6, rb_6⟩, ⟨rfl, rfl, rfl⟩, ⟨rfl, Nat.zero_le _, rfl, fun _ => (by decide : (0 : Nat) < 256)⟩, ⟨rfl, rfl⟩, ⟨rfl, rfl, Or.inl rfl, Or.inl rfl⟩, ⟨fun _ => (by decide : (0 : Nat) < 12), fun _ => (by decide : (0 : Nat) < 2), fun _ _ => (by decide : (0 : Nat) < 4096)⟩⟩, ⟨h1.left, h1.right.left, h1.right.right.left, h1.right.right.right.left, h1.right.right.right.right.left, h1.right.right.right.right.right.left, h1.right.right.right.right.right.right.left, h1.right.right.right.right.right.right.right.left, h1.right.right.right.right.right.right.right.right.left, h1.right.right.right.right.right.right.right.right.right.left, h1.right.right.right.right.right.right.right.right.right.right⟩, h2⟩
set_option maxHeartbeats 4000000 in
set_option maxRecDepth 100000 in
theorem whole_start {p : Program} {e : Env} {s : State} {m : MethodId} {below : List Frame} {meth : Method} {c : Code} (l : Launch) {b L : Nat} {xs : Nat → Int32} (hL : L ≤ 3072) (C0 : lw_At p s m meth c b L xs) : W p l e room_1 s m #[Value.ref b] below meth c s.heap [] 0 0 (lw_Z below #[Value.ref b] s) (entryFrame m ([Value.ref b] : List Value).toArray 4) := by
  obtain ⟨hx, hb, hr, hml, hown, hts, hX, hbl, hlocks, hgv⟩ := id C0
  have hs := flat_of_before _ hgv
  obtain ⟨tS, sk, sv, hy⟩ := law_Am hts hs
  have hn := law_NL hts
  obtain ⟨D, k, hK⟩ := law_K hts
  have hz : CallFix p m c cL_law 4 s #[Value.ref b] wsL_law RL := ⟨hx, hb, hml, hown, fun w hw => hts w (wsL_law_in w hw)⟩
  have hA : ∀ q : Nat, s.heap.size ≤ q → lA s q := fun _ h => h
  have hS : va_S (lA s) s.heap s.heap [] := va_S.rf
  have hP : va_P D vwCl [] s.heap := fun k q h => by simp at h
  have hD : va_D (lA s) [] := ⟨fun i j p q h => by simp at h, fun k q h => by simp at h⟩
  have hl := lv_entry ([.ref b]) (n := 4) (Nat.le_of_ble_eq_true rfl)
  rw [lg_entry_eq]
  generalize (lg_sl ([.ref b]) ++ List.replicate (4 - (lg_sl ([.ref b])).length) Slot.unset).toArray = ls at hl ⊢
  have hl : lv_has ls 4 [(0, .ref b)] := hl
  refine va_new (ci := 5) (fs := [.null, .null, .null, .null, .null, .null, .null, .null, .int 0, .int 0, .int 0]) (C := RX5) (T := TX5) (N := 11) hz.1 hz.2.1 hz.2.2.2.2 inlX5_ tyX5 tyX5_ok hz.2.2.2.1 (hz.2.2.2.2 (.classLink RL 7 RX5) (List.mem_of_getElem? (i := 0) rfl)) (hz.2.2.2.2 (.instantiable RX5 11) (List.mem_of_getElem? (i := 1) rfl)) (hz.2.2.2.2 (.initialized RX5) (List.mem_of_getElem? (i := 2) rfl)) hK hP hD hS hA rfl (fun j hj => by rcases (show j = 0 ∨ j = 1 ∨ j = 2 ∨ j = 3 ∨ j = 4 ∨ j = 5 ∨ j = 6 ∨ j = 7 ∨ j = 8 ∨ j = 9 ∨ j = 10 by omega) with rfl | rfl | rfl | rfl | rfl | rfl | rfl | rfl | rfl | rfl | rfl <;> rfl) (Nat.le_of_ble_eq_true rfl) (Nat.le_of_ble_eq_true rfl) dL_law_0 (fun qx H hP hD hS => ?_)
  have hP : va_P D vwCl [(qx, .inr (5, [.null, .null, .null, .null, .null, .null, .null, .null, .int 0, .int 0, .int 0]))] H := hP
  have hD : va_D (lA s) [(qx, .inr (5, [.null, .null, .null, .null, .null, .null, .null, .null, .int 0, .int 0, .int 0]))] := hD
  refine lv_dup hz.1 hz.2.1 dL_law_3 rfl ?_
  refine inL (y := yX5_init) (post := fun (u : Nat → Nat) => u 0 = qx) (w1 := fun (u : Nat → Nat) => cw u k z1 f6 z2 f6 z2 f6 z2 f6 z2 z1 z1 z1 (fun _ => 0) z1 z1 z1 z1 z1 z1 z2 q1) (wr := []) hz (c5_init l D k qx H.size) gL_law_X5_init rfl ⟨rfl, rfl⟩ hn (List.mem_of_getElem? (i := 7) rfl) (List.mem_of_getElem? (i := 2) rfl) (List.mem_of_getElem? (i := 8) rfl) rfl (by decide +kernel) ⟨Nat.le_of_ble_eq_true rfl, Nat.le_of_ble_eq_true rfl⟩ hK hP hD hS hA (hP.sub [0] rfl) (hD.sub [0] (by decide) rfl) [0] [] rfl rfl (by decide) (by decide) hl.1 rfl (Nat.le_of_ble_eq_true rfl) dL_law_4 ⟨Nat.le_of_ble_eq_true rfl, Nat.le_of_ble_eq_true rfl⟩ (fun a H locs ha hP2 hD2 hS2 => ?_)
  subst ha
  refine lv_astore_n (lv' := [(1, .ref (a 0)), (0, .ref b)]) hz.1 hz.2.1 dL_law_7 rfl hl (by decide) rfl (fun ls hl => ?_)
  have hP : va_P D vwCl (cw a k z1 f6 z2 f6 z2 f6 z2 f6 z2 z1 z1 z1 (fun _ => 0) z1 z1 z1 z1 z1 z1 z2 q1) H := hP2
  have hD : va_D (lA s) (cw a k z1 f6 z2 f6 z2 f6 z2 f6 z2 z1 z1 z1 (fun _ => 0) z1 z1 z1 z1 z1 z1 z2 q1) := hD2
  have hS := hS2
  refine va_new (ci := 6) (fs := [.null, .null, .null, .null, .long 0, .long 0, .null, .null, .null, .null, .null, .null, .int 0, .int 0, .int 0, .int 0, .int 0, .null, .null]) (C := RX6) (T := TX6) (N := 19) hz.1 hz.2.1 hz.2.2.2.2 inlX6_ tyX6 tyX6_ok hz.2.2.2.1 (hz.2.2.2.2 (.classLink RL 10 RX6) (List.mem_of_getElem? (i := 3) rfl)) (hz.2.2.2.2 (.instantiable RX6 19) (List.mem_of_getElem? (i := 4) rfl)) (hz.2.2.2.2 (.initialized RX6) (List.mem_of_getElem? (i := 5) rfl)) hK hP hD hS hA rfl (fun j hj => by rcases (show j = 0 ∨ j = 1 ∨ j = 2 ∨ j = 3 ∨ j = 4 ∨ j = 5 ∨ j = 6 ∨ j = 7 ∨ j = 8 ∨ j = 9 ∨ j = 10 ∨ j = 11 ∨ j = 12 ∨ j = 13 ∨ j = 14 ∨ j = 15 ∨ j = 16 ∨ j = 17 ∨ j = 18 by omega) with rfl | rfl | rfl | rfl | rfl | rfl | rfl | rfl | rfl | rfl | rfl | rfl | rfl | rfl | rfl | rfl | rfl | rfl | rfl <;> rfl) (Nat.le_of_ble_eq_true rfl) (Nat.le_of_ble_eq_true rfl) dL_law_8 (fun qy H hP hD hS => ?_)
  refine lv_dup hz.1 hz.2.1 dL_law_11 rfl ?_
  refine inL (y := yX6_init) (post := fun (u : Nat → Nat) => u 0 = qy) (w1 := fun (u : Nat → Nat) => mw u k z1 q1 (gset z2 0 f6)) (wr := cw a k z1 f6 z2 f6 z2 f6 z2 f6 z2 z1 z1 z1 (fun _ => 0) z1 z1 z1 z1 z1 z1 z2 q1) hz (c6_init l D k qy H.size) gL_law_X6_init rfl ⟨rfl, rfl⟩ hn (List.mem_of_getElem? (i := 71) rfl) (List.mem_of_getElem? (i := 5) rfl) (List.mem_of_getElem? (i := 72) rfl) rfl (by decide +kernel) ⟨Nat.le_of_ble_eq_true rfl, Nat.le_of_ble_eq_true rfl⟩ hK hP hD hS hA (hP.sub [54] rfl) (hD.sub [54] (by decide) rfl) [54] [0, 1, 2, 3, 4, 5, 6, 7, 8, 9, 10, 11, 12, 13, 14, 15, 16, 17, 18, 19, 20, 21, 22, 23, 24, 25, 26, 27, 28, 29, 30, 31, 32, 33, 34, 35, 36, 37, 38, 39, 40, 41, 42, 43, 44, 45, 46, 47, 48, 49, 50, 51, 52, 53] rfl rfl (by decide) (by decide) hl.1 rfl (Nat.le_of_ble_eq_true rfl) dL_law_12 ⟨Nat.le_of_ble_eq_true rfl, Nat.le_of_ble_eq_true rfl⟩ (fun b2 H locs hb2 hP2 hD2 hS2 => ?_)
  subst hb2
  refine lv_astore_n (lv' := [(2, .ref (b2 0)), (1, .ref (a 0)), (0, .ref b)]) hz.1 hz.2.1 dL_law_15 rfl hl (by decide) rfl (fun ls hl => ?_)
  refine lv_iconst (v := nI 0) hz.1 hz.2.1 dL_law_16 (by decide) ?_
  refine lv_istore_n (lv' := [(3, .int (nI 0)), (2, .ref (b2 0)), (1, .ref (a 0)), (0, .ref b)]) hz.1 hz.2.1 dL_law_17 rfl hl (by decide) rfl (fun ls hl => ?_)
  have hP : va_P D vwCl (cw a k z1 f6 z2 f6 z2 f6 z2 f6 z2 z1 z1 z1 (fun _ => 0) z1 z1 z1 z1 z1 z1 z2 q1 ++ mw b2 k z1 q1 (gset z2 0 f6)) H := hP2
  have hD : va_D (lA s) (cw a k z1 f6 z2 f6 z2 f6 z2 f6 z2 z1 z1 z1 (fun _ => 0) z1 z1 z1 z1 z1 z1 z2 q1 ++ mw b2 k z1 q1 (gset z2 0 f6)) := hD2
  have hS := hS2
  refine W.widen (k := 67) (n := 1855) (Nat.le_of_ble_eq_true rfl) (Nat.le_of_ble_eq_true rfl) ?_
  have E0 : LE p s m c D k a b2 b L xs tS sk sv := ⟨hz, hX, hbl, hK, hy, D_aOK (N := 54) rfl hD.left, D_aOK (N := 13) rfl hD.right, fun i j h1 h2 => D_apart hD (wA_of_ix (N := 54) rfl h1) (wA_of_ix (N := 13) rfl h2), hL⟩
  exact law_loop E0 hr hlocks (L + 7) 0 (Nat.zero_le _) (by omega) H locs (LI_0 hP.left hP.right) hS ls (lv_sub hl [3, 2, 1, 0] rfl)
