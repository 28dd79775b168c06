/-! BASE 10: strings; the text of the class; what writes do to the class's border -/
def QcNo : Array Value → State → Outcome → State → Prop := fun _ st o t => o = .returned none ∧ t.heap = st.heap
def wdN (i j : Nat) : Nat := ((wdByt.getD i []).getD j 0).toNatClampNeg
theorem wdN_lt : ∀ i, i < 6 → ∀ j, j < 6 → wdN i j < 128 := by decide
theorem wdN_is : ∀ i, i < 6 → ∀ j, j < wdLen.getD i 0 → (((wdByt.getD i []).getD j 0 &&& nI 255).toUInt32 % 65536).toInt32 = nI (wdN i j) := by decide
theorem wdN_nar : ∀ i, i < 6 → ∀ j, j < 6 → narrow .char (.int (nI (wdN i j))) = .int (nI (wdN i j)) := by decide
theorem wdLen_in : ∀ i, i < 6 → 4 ≤ wdLen.getD i 0 ∧ wdLen.getD i 0 ≤ 5 := by decide
theorem hP0 {D : va_G} {H : Heap} : va_P D vwCl [] H := fun i q h => by cases h
theorem hD00 {A : Nat → Prop} : va_D A [] := ⟨(fun i j p q h => by cases h), (fun i q h => by cases h)⟩
section BASE10
variable {p : Program} {l : Launch} {e : Env} {R : Room} {s : State} {m : MethodId} {args : Array Value} {below : List Frame} {meth : Method} {c : Code} {H : Heap} {locs : List Loc} {Q : State → Prop} {cells slots : Nat}
variable {cc bytes : ByteArray} {nL maxL pc index n : Nat} {ls : Array Slot} {rest st0 As : List Value} {Ts wsC wsC' : List Cond} {own : String} {y : MethodName} {rm : Room} {ret : Option FieldType} {Y : (Nat → Prop) → State → Heap → Prop} {D : va_G} {k : Nat → ClassId} {wc : va_W} {r : Int32} {A : Nat → Prop} {b : Nat}
theorem rd_nret (hz : CallFix p m c cc nL s args Ts own) (hr : meth.sig.returnType = none) (hlk : meth.locks = false) (hdg : decode cc pc = .ok (.return_, 1)) :
    W p l e R s m args below meth c s.heap [] cells slots (MQ below QcNo args s cells slots (fun _ => False)) (F0 m pc ls []) :=
  W.vret hz.1 hz.2.1 hr (fun t ht _ => ⟨rfl, ht⟩) (fun q hq => by cases hq) hdg hlk
theorem rd_tret {ty : FieldType} (hz : CallFix p m c cc nL s args Ts own) (hr : meth.sig.returnType = some ty) (hlk : meth.locks = false) {v : Int32} (hdg : decode cc pc = .ok (.ireturn, 1)) (hn : narrow ty (.int r) = .int r) (hv : v = r) :
    W p l e R s m args below meth c s.heap [] cells slots (MQ below (QcRead r) args s cells slots (fun _ => False)) (F0 m pc ls [.int v]) := by
  subst hv
  exact W.zret hz.1 hz.2.1 hr hn (fun t ht _ => ⟨rfl, ht⟩) (fun q hq => by cases hq) hdg hlk
theorem rdSn (hz : CallFix p m c cc nL s args Ts own) (hY : okY Y) (hM : Met l y wsC rm (va_Pc As (wH Y D k wc)) QcNo 0 0 (fun _ => False)) (cw : CallB R s args own index y bytes maxL ret wsC rm 0 0 n ∧ (Cond.static y).before args s = true)
    (hK : va_K D vwCl (tyL k) s) (hy : Y A s s.heap) (hP : va_P D vwCl wc H) (hD : va_D A wc) (hS : va_S A s.heap H locs)
    (hn : As.length = n) (hsz : ls.size = nL) (hst : st0 = As.reverse ++ rest) (hW : (rest.map fun v => v.category).sum ≤ 8) (hdg : decode cc pc = .ok (.invokestatic index, 3)) (hf : cells ≤ R.cells ∧ slots ≤ R.slots)
    (kk : W p l e R s m args below meth c H locs cells slots Q (F0 m (pc + 3) ls rest)) : W p l e R s m args below meth c H locs cells slots Q (F0 m pc ls st0) := by
  have hr : CallRun p l e R s m args below meth c H locs cells slots 0 0 (F0 m pc ls st0) rest (QcNo As.toArray) (fun _ => False) := W.runS (As := As) (rest := rest) (g := F0 m pc ls st0) (H := H) (locs := locs) (cells := cells) (slots := slots) hz hM cw ⟨wH.blind hY, fun U hU hWm => ⟨rfl, by rw [hU]; exact hP, va_K.moved hWm.alike hK, hD.any, wY hY hy hD hS hU hWm⟩⟩ rfl hn hsz hst (lv_room hW) hdg hf
  intro T hT X
  obtain ⟨v, st₀, t, T', L, h0, X', hL, e1, ⟨hv, hh⟩, st⟩ := hr T hT X
  cases hv
  obtain ⟨t2, a1, b1⟩ := kk T' (by rw [e1, hh, h0]) (Stand.forget X' (fun q h => (hL q h).elim))
  exact ⟨t2, st t2 a1, b1⟩
theorem rdVS (hz : CallFix p m c cc nL s args Ts own) (hY : okY Y) (hM : Met l y wsC rm (va_Pc (.ref b :: As) (wH Y D k wc)) (QcRead r) 0 0 (fun _ => False)) {C : String} (cw : CallW R s args own C index y bytes maxL ret wsC rm 0 0 n)
    (hK : va_K D vwCl (tyL k) s) (hy : Y A s s.heap) (hP : va_P D vwCl wc H) (hD : va_D A wc) (hS : va_S A s.heap H locs) (hrec : ∃ cell : Cell, H[b]? = some cell ∧ cell.vm.isStatics = false ∧ s.vm.findClass C = some cell.cls)
    (hn : As.length = n) (hsz : ls.size = nL) (hst : st0 = As.reverse ++ .ref b :: rest) (hW : (rest.map fun v => v.category).sum ≤ 8) (hdg : decode cc pc = .ok (.invokevirtual index, 3)) (hf : cells ≤ R.cells ∧ slots ≤ R.slots)
    (kk : W p l e R s m args below meth c H locs cells slots Q (F0 m (pc + 3) ls (.int r :: rest))) : W p l e R s m args below meth c H locs cells slots Q (F0 m pc ls st0) :=
  W.callR (W.runV (As := As) (rest := rest) (b := b) (g := F0 m pc ls st0) hz hM cw ⟨wH.blind hY, hrec, fun U hU hWm => ⟨rfl, by rw [hU]; exact hP, va_K.moved hWm.alike hK, hD.any, wY hY hy hD hS hU hWm⟩⟩ rfl hn hsz hst (lv_room hW) hdg hf) kk
end BASE10
theorem cJ_pre (l_ : Launch) (i n : Nat) (hi : i < n) (hn : n < 2147483648) (f : Value) (hf : f = .null ∨ ∃ t, f = .ref t) : Met l_ yJ3_checkIndex_8e157 wsJ3_checkIndex_8e157 ({ frames := 0, cells := 0, slots := 0, locals := 0 }) (va_Pc [.int (nI i), .int (nI n), f] (fun _ => True)) (QcRead (nI i)) 0 0 (fun _ => False) := by
  have go : ∀ f : Value, (lg_sl [Value.int (nI i), .int (nI n), f]).length ≤ 3 → lv_args 0 [Value.int (nI i), .int (nI n), f] = [(0, .int (nI i)), (1, .int (nI n)), (2, f)] → Met l_ yJ3_checkIndex_8e157 wsJ3_checkIndex_8e157 ({ frames := 0, cells := 0, slots := 0, locals := 0 }) (va_Pc [.int (nI i), .int (nI n), f] (fun _ => True)) (QcRead (nI i)) 0 0 (fun _ => False) := by
    intro f h1 h2
    refine my_entry (cc := cJ3_checkIndex_8e157) (maxL := 3) (ret := some .int) (by decide) rfl h1 ?_
    intro p_ e_ s_ m_ bl_ me_ c_ hz hr hlk hB ls hl
    rw [h2] at hl
    refine lv_iload_n hz.1 hz.2.1 dJ3_checkIndex_8e157_0 rfl (lv_at hl 0 rfl) ?_
    refine lv_if_lt (tgt := 9) hz.1 hz.2.1 dJ3_checkIndex_8e157_1 (by decide) (fun c_1 => absurd c_1 (nI_pos (by omega))) (fun c_1 => ?_)
    refine lv_iload_n hz.1 hz.2.1 dJ3_checkIndex_8e157_4 rfl (lv_at hl 0 rfl) ?_
    refine lv_iload_n hz.1 hz.2.1 dJ3_checkIndex_8e157_5 rfl (lv_at hl 1 rfl) ?_
    refine jlt (tgt := 16) hz dJ3_checkIndex_8e157_6 (by decide) (by omega) (by omega) (fun c_6 => ?_) (fun c_6 => absurd hi c_6)
    refine lv_iload_n hz.1 hz.2.1 dJ3_checkIndex_8e157_16 rfl (lv_at hl 0 rfl) ?_
    exact rd_iret hz hr hlk dJ3_checkIndex_8e157_17 rfl
  rcases hf with rfl | ⟨t, rfl⟩
  · exact go _ (Nat.le_of_ble_eq_true rfl) rfl
  · exact go _ (Nat.le_of_ble_eq_true rfl) rfl
theorem cJ_chk (l_ : Launch) (D : va_G) (k : Nat → ClassId) (tS : Nat) (sk sv : Nat → Nat) (i n : Nat) (hi : i < n) (hn : n < 2147483648) : Met l_ yJ0_checkIndex_df160 wsJ0_checkIndex_df160 ({ frames := 1, cells := 0, slots := 0, locals := 22 }) (va_Pc [.int (nI i), .int (nI n)] (wH (Am tS sk sv) D k [])) QcNo 0 0 (fun _ => False) := by
  refine my_entry (cc := cJ0_checkIndex_df160) (maxL := 2) (ret := none) (by decide) rfl (Nat.le_of_ble_eq_true rfl) ?_
  intro p_ e_ s_ m_ bl_ me_ c_ hz hr hlk hB ls hl
  obtain ⟨hP, hK, hD0, hy⟩ := hB
  have hS : va_S (wA []) s_.heap s_.heap [] := va_S.rf
  have hl : lv_has ls 2 [(0, .int (nI i)), (1, .int (nI n))] := hl
  refine lv_iload_n hz.1 hz.2.1 dJ0_checkIndex_df160_0 rfl (lv_at hl 0 rfl) ?_
  refine lv_iload_n hz.1 hz.2.1 dJ0_checkIndex_df160_1 rfl (lv_at hl 1 rfl) ?_
  have go : ∀ f : Value, f.category = 1 → (f = .null ∨ ∃ t, f = .ref t) → W p_ l_ e_ ({ frames := 1, cells := 0, slots := 0, locals := 22 }) s_ m_ [Value.int (nI i), .int (nI n)].toArray bl_ me_ c_ s_.heap [] 0 0 (MQ bl_ QcNo [Value.int (nI i), .int (nI n)].toArray s_ 0 0 (fun _ => False)) (F0 m_ 5 ls [f, .int (nI n), .int (nI i)]) := by
    intro f hf hc
    refine rdS (As := [.int (nI i), .int (nI n), f]) (rest := []) hz (cJ_pre l_ i n hi hn f hc) rfl (va_cwS 3 hz.2.2.2.2 gJ0_checkIndex_df160_J3_checkIndex_8e157 rfl rfl rfl (by decide +kernel) ⟨Nat.le_of_ble_eq_true rfl, Nat.le_of_ble_eq_true rfl⟩) rfl hl.1 rfl (Nat.le_of_ble_eq_true rfl) dJ0_checkIndex_df160_5 ⟨Nat.zero_le _, Nat.zero_le _⟩ ?_
    refine lv_pop hz.1 hz.2.1 dJ0_checkIndex_df160_8 rfl ?_
    exact rd_nret hz hr hlk dJ0_checkIndex_df160_9
  rcases hy.2.2.2.2.2 with hq | ⟨t, hq⟩
  · exact va_gets hz.1 hz.2.1 hq hS hz.2.2.2.1 (hz.2.2.2.2 _ (List.mem_of_getElem? (i := 1) rfl)) (fun _ h => h) dJ0_checkIndex_df160_2 (go _ rfl (Or.inl rfl))
  · exact va_gets hz.1 hz.2.1 hq hS hz.2.2.2.1 (hz.2.2.2.2 _ (List.mem_of_getElem? (i := 1) rfl)) (fun _ h => h) dJ0_checkIndex_df160_2 (go _ rfl (Or.inr ⟨t, rfl⟩))
theorem cJ_at1 (l_ : Launch) (D : va_G) (k : Nat → ClassId) (tS : Nat) (sk sv : Nat → Nat) (i j : Nat) (hi : i < 6) (hj : j < wdLen.getD i 0) : Met l_ yJ1_charAt_3b067 wsJ1_charAt_3b067 ({ frames := 2, cells := 0, slots := 0, locals := 43 }) (va_Pc [.ref (sv i), .int (nI j)] (wH (Am tS sk sv) D k [])) (QcRead (nI (wdN i j))) 0 0 (fun _ => False) := by
  have hl5 := wdLen_in i hi
  refine my_entry (cc := cJ1_charAt_3b067) (maxL := 2) (ret := some .char) (by decide) rfl (Nat.le_of_ble_eq_true rfl) ?_
  intro p_ e_ s_ m_ bl_ me_ c_ hz hr hlk hB ls hl
  obtain ⟨hP, hK, hD0, hy⟩ := hB
  have hS : va_S (wA []) s_.heap s_.heap [] := va_S.rf
  have hT := (hy.2.2.2.1.1 i hi).2.2.2
  have hl : lv_has ls 2 [(0, .ref (sv i)), (1, .int (nI j))] := hl
  refine lv_iload_n hz.1 hz.2.1 dJ1_charAt_3b067_0 rfl (lv_at hl 1 rfl) ?_
  refine lv_aload_n hz.1 hz.2.1 dJ1_charAt_3b067_1 rfl (lv_at hl 0 rfl) ?_
  refine va_tlen hz.1 hz.2.1 hT hS (v := nI (wdLen.getD i 0)) rfl dJ1_charAt_3b067_2 ?_
  refine rdSn (As := [.int (nI j), .int (nI (wdLen.getD i 0))]) (rest := []) hz (okAm tS sk sv) (cJ_chk l_ D k tS sk sv j _ hj (by omega)) (va_cwS 2 hz.2.2.2.2 gJ1_charAt_3b067_J0_checkIndex_df160 rfl rfl rfl (by decide +kernel) ⟨Nat.le_of_ble_eq_true rfl, Nat.le_of_ble_eq_true rfl⟩) hK hy hP0 hD00 hS rfl hl.1 rfl (Nat.le_of_ble_eq_true rfl) dJ1_charAt_3b067_3 ⟨Nat.zero_le _, Nat.zero_le _⟩ ?_
  refine lv_aload_n hz.1 hz.2.1 dJ1_charAt_3b067_6 rfl (lv_at hl 0 rfl) ?_
  refine lv_iload_n hz.1 hz.2.1 dJ1_charAt_3b067_7 rfl (lv_at hl 1 rfl) ?_
  refine va_tb hz.1 hz.2.1 hT hS (vp_in_nI hj (by omega)) (v := .int ((wdByt.getD i []).getD j 0)) (by rw [nI_clamp (by omega)]) dJ1_charAt_3b067_8 ?_
  refine lv_sipush (v := nI 255) hz.1 hz.2.1 dJ1_charAt_3b067_9 (by decide) ?_
  refine lv_iand hz.1 hz.2.1 dJ1_charAt_3b067_12 ?_
  refine lv_i2c (v := nI (wdN i j)) hz.1 hz.2.1 dJ1_charAt_3b067_13 (wdN_is i hi j hj) ?_
  exact rd_tret hz hr hlk dJ1_charAt_3b067_14 (wdN_nar i hi j (by omega)) rfl
theorem cJ_lat (l_ : Launch) (D : va_G) (k : Nat → ClassId) (tS : Nat) (sk sv : Nat → Nat) (i : Nat) (hi : i < 6) : Met l_ yJ0_isLatin1_aae02 wsJ0_isLatin1_aae02 ({ frames := 0, cells := 0, slots := 0, locals := 0 }) (va_Pc [.ref (sk i)] (wH (Am tS sk sv) D k [])) (QcRead (bI true)) 0 0 (fun _ => False) := by
  refine my_entry (cc := cJ0_isLatin1_aae02) (maxL := 1) (ret := some .boolean) (by decide) rfl (Nat.le_of_ble_eq_true rfl) ?_
  intro p_ e_ s_ m_ bl_ me_ c_ hz hr hlk hB ls hl
  obtain ⟨hP, hK, hD0, hy⟩ := hB
  have hS : va_S (wA []) s_.heap s_.heap [] := va_S.rf
  have hl : lv_has ls 1 [(0, .ref (sk i))] := hl
  refine va_gets hz.1 hz.2.1 hy.2.2.2.2.1 hS hz.2.2.2.1 (hz.2.2.2.2 _ (List.mem_of_getElem? (i := 1) rfl)) (fun _ h => h) dJ0_isLatin1_aae02_0 ?_
  refine lv_if_eq (tgt := 17) hz.1 hz.2.1 dJ0_isLatin1_aae02_3 (by decide) (fun c_3 => absurd c_3 (by decide)) (fun c_3 => ?_)
  refine lv_aload_n hz.1 hz.2.1 dJ0_isLatin1_aae02_6 rfl (lv_at hl 0 rfl) ?_
  refine vk_getf hz.1 hz.2.1 (hy.2.2.2.1.1 i hi).2.1 hS hz.2.2.2.1 (hz.2.2.2.2 _ (List.mem_of_getElem? (i := 2) rfl)) (fun _ h => h) dJ0_isLatin1_aae02_7 ?_
  refine lv_if_ne (tgt := 17) hz.1 hz.2.1 dJ0_isLatin1_aae02_10 (by decide) (fun c_10 => absurd rfl c_10) (fun c_10 => ?_)
  refine lv_iconst (v := nI 1) hz.1 hz.2.1 dJ0_isLatin1_aae02_13 (by decide) ?_
  refine lv_goto (tgt := 18) hz.1 hz.2.1 dJ0_isLatin1_aae02_14 (by decide) ?_
  exact rd_zret hz hr hlk dJ0_isLatin1_aae02_18 (bI_1 rfl)
theorem cJ_cod (l_ : Launch) (D : va_G) (k : Nat → ClassId) (tS : Nat) (sk sv : Nat → Nat) (i : Nat) (hi : i < 6) : Met l_ yJ0_coder_7d493 wsJ0_coder_7d493 ({ frames := 0, cells := 0, slots := 0, locals := 0 }) (va_Pc [.ref (sk i)] (wH (Am tS sk sv) D k [])) (QcRead 0) 0 0 (fun _ => False) := by
  refine my_entry (cc := cJ0_coder_7d493) (maxL := 1) (ret := some .byte) (by decide) rfl (Nat.le_of_ble_eq_true rfl) ?_
  intro p_ e_ s_ m_ bl_ me_ c_ hz hr hlk hB ls hl
  obtain ⟨hP, hK, hD0, hy⟩ := hB
  have hS : va_S (wA []) s_.heap s_.heap [] := va_S.rf
  have hl : lv_has ls 1 [(0, .ref (sk i))] := hl
  refine va_gets hz.1 hz.2.1 hy.2.2.2.2.1 hS hz.2.2.2.1 (hz.2.2.2.2 _ (List.mem_of_getElem? (i := 1) rfl)) (fun _ h => h) dJ0_coder_7d493_0 ?_
  refine lv_if_eq (tgt := 13) hz.1 hz.2.1 dJ0_coder_7d493_3 (by decide) (fun c_3 => absurd c_3 (by decide)) (fun c_3 => ?_)
  refine lv_aload_n hz.1 hz.2.1 dJ0_coder_7d493_6 rfl (lv_at hl 0 rfl) ?_
  refine vk_getf hz.1 hz.2.1 (hy.2.2.2.1.1 i hi).2.1 hS hz.2.2.2.1 (hz.2.2.2.2 _ (List.mem_of_getElem? (i := 2) rfl)) (fun _ h => h) dJ0_coder_7d493_7 ?_
  refine lv_goto (tgt := 14) hz.1 hz.2.1 dJ0_coder_7d493_10 (by decide) ?_
  exact rd_tret hz hr hlk dJ0_coder_7d493_14 (by decide) rfl
theorem wd_len0 : ∀ i, i < 6 → nI (wdLen.getD i 0) >>> ((0 : Int32) &&& 31) = nI (wdLen.getD i 0) := by decide
theorem cJ_len (l_ : Launch) (D : va_G) (k : Nat → ClassId) (tS : Nat) (sk sv : Nat → Nat) (i : Nat) (hi : i < 6) : Met l_ yJ0_length_8abf5 wsJ0_length_8abf5 ({ frames := 1, cells := 0, slots := 0, locals := 20 }) (va_Pc [.ref (sk i)] (wH (Am tS sk sv) D k [])) (QcRead (nI (wdLen.getD i 0))) 0 0 (fun _ => False) := by
  refine my_entry (cc := cJ0_length_8abf5) (maxL := 1) (ret := some .int) (by decide) rfl (Nat.le_of_ble_eq_true rfl) ?_
  intro p_ e_ s_ m_ bl_ me_ c_ hz hr hlk hB ls hl
  obtain ⟨hP, hK, hD0, hy⟩ := hB
  have hS : va_S (wA []) s_.heap s_.heap [] := va_S.rf
  have hl : lv_has ls 1 [(0, .ref (sk i))] := hl
  refine lv_aload_n hz.1 hz.2.1 dJ0_length_8abf5_0 rfl (lv_at hl 0 rfl) ?_
  refine vk_getf hz.1 hz.2.1 (hy.2.2.2.1.1 i hi).2.2.1 hS hz.2.2.2.1 (hz.2.2.2.2 _ (List.mem_of_getElem? (i := 1) rfl)) (fun _ h => h) dJ0_length_8abf5_1 ?_
  refine va_tlen hz.1 hz.2.1 (hy.2.2.2.1.1 i hi).2.2.2 hS (v := nI (wdLen.getD i 0)) rfl dJ0_length_8abf5_4 ?_
  refine lv_aload_n hz.1 hz.2.1 dJ0_length_8abf5_5 rfl (lv_at hl 0 rfl) ?_
  refine rdVS (A := wA []) (As := []) (rest := [.int (nI (wdLen.getD i 0))]) hz (okAm tS sk sv) (cJ_cod l_ D k tS sk sv i hi) (cwV 0 hz.2.2.2.2 gJ0_length_8abf5_J0_coder_7d493 rfl rfl rfl (by decide +kernel) ⟨Nat.le_of_ble_eq_true rfl, Nat.le_of_ble_eq_true rfl⟩) hK hy hP0 hD00 hS (vk_recv hy.2.2.2.1 hi hS) rfl hl.1 rfl (Nat.le_of_ble_eq_true rfl) dJ0_length_8abf5_6 ⟨Nat.zero_le _, Nat.zero_le _⟩ ?_
  refine lv_ishr hz.1 hz.2.1 dJ0_length_8abf5_9 ?_
  exact rd_iret hz hr hlk dJ0_length_8abf5_10 (wd_len0 i hi)
theorem cJ_at (l_ : Launch) (D : va_G) (k : Nat → ClassId) (tS : Nat) (sk sv : Nat → Nat) (i j : Nat) (hi : i < 6) (hj : j < wdLen.getD i 0) : Met l_ yJ0_charAt_5068e wsJ0_charAt_5068e ({ frames := 3, cells := 0, slots := 0, locals := 64 }) (va_Pc [.ref (sk i), .int (nI j)] (wH (Am tS sk sv) D k [])) (QcRead (nI (wdN i j))) 0 0 (fun _ => False) := by
  have hl5 := wdLen_in i hi
  refine my_entry (cc := cJ0_charAt_5068e) (maxL := 2) (ret := some .char) (by decide) rfl (Nat.le_of_ble_eq_true rfl) ?_
  intro p_ e_ s_ m_ bl_ me_ c_ hz hr hlk hB ls hl
  obtain ⟨hP, hK, hD0, hy⟩ := hB
  have hS : va_S (wA []) s_.heap s_.heap [] := va_S.rf
  have hl : lv_has ls 2 [(0, .ref (sk i)), (1, .int (nI j))] := hl
  refine lv_aload_n hz.1 hz.2.1 dJ0_charAt_5068e_0 rfl (lv_at hl 0 rfl) ?_
  refine rdVS (A := wA []) (As := []) (rest := []) hz (okAm tS sk sv) (cJ_lat l_ D k tS sk sv i hi) (cwV 0 hz.2.2.2.2 gJ0_charAt_5068e_J0_isLatin1_aae02 rfl rfl rfl (by decide +kernel) ⟨Nat.le_of_ble_eq_true rfl, Nat.le_of_ble_eq_true rfl⟩) hK hy hP0 hD00 hS (vk_recv hy.2.2.2.1 hi hS) rfl hl.1 rfl (Nat.le_of_ble_eq_true rfl) dJ0_charAt_5068e_1 ⟨Nat.zero_le _, Nat.zero_le _⟩ ?_
  refine zeq (tgt := 16) hz dJ0_charAt_5068e_4 (by decide) (fun c_4 => absurd c_4 (by decide)) (fun c_4 => ?_)
  refine lv_aload_n hz.1 hz.2.1 dJ0_charAt_5068e_7 rfl (lv_at hl 0 rfl) ?_
  refine vk_getf hz.1 hz.2.1 (hy.2.2.2.1.1 i hi).2.2.1 hS hz.2.2.2.1 (hz.2.2.2.2 _ (List.mem_of_getElem? (i := 1) rfl)) (fun _ h => h) dJ0_charAt_5068e_8 ?_
  refine lv_iload_n hz.1 hz.2.1 dJ0_charAt_5068e_11 rfl (lv_at hl 1 rfl) ?_
  refine rdSW (As := [.ref (sv i), .int (nI j)]) (rest := []) hz (okAm tS sk sv) (cJ_at1 l_ D k tS sk sv i j hi hj) (va_cwS 2 hz.2.2.2.2 gJ0_charAt_5068e_J1_charAt_3b067 rfl rfl rfl (by decide +kernel) ⟨Nat.le_of_ble_eq_true rfl, Nat.le_of_ble_eq_true rfl⟩) hK hy hP0 hD00 hS rfl hl.1 rfl (Nat.le_of_ble_eq_true rfl) dJ0_charAt_5068e_12 ⟨Nat.zero_le _, Nat.zero_le _⟩ ?_
  exact rd_tret hz hr hlk dJ0_charAt_5068e_15 (wdN_nar i hi j (by omega)) rfl
/-! the text's cells at a token -/
def kX (T : Nat → Nat) (L p : Nat) : Nat → Nat := fun j => if j = 0 then L else if j = 1 then sKd T L p else if j = 2 then p else sEd T L p
def kNum (T : Nat → Nat) (L p lo hi : Nat) : Option Nat := if sNum T L p lo hi then some (sVl T L p) else none
theorem kNum_s {T : Nat → Nat} {L p lo hi : Nat} (h : sNum T L p lo hi) : kNum T L p lo hi = some (sVl T L p) := if_pos h
theorem kNum_n {T : Nat → Nat} {L p lo hi : Nat} (h : ¬ sNum T L p lo hi) : kNum T L p lo hi = none := if_neg h
theorem kNum_lt {T : Nat → Nat} {L p lo hi : Nat} (h : oI (kNum T L p lo hi) < 0) : ¬ sNum T L p lo hi ∨ ¬ sVl T L p < 2147483648 := by
  by_cases q : sNum T L p lo hi
  · right
    rw [kNum_s q] at h
    exact fun z => nI_pos z h
  · exact Or.inl q
theorem kNum_ge {T : Nat → Nat} {L p lo hi : Nat} (h : ¬ oI (kNum T L p lo hi) < 0) : sNum T L p lo hi := by
  by_cases q : sNum T L p lo hi
  · exact q
  · rw [kNum_n q] at h; exact absurd (by decide) h
def kOK (T : Nat → Nat) (L : Nat) (x : Bool × Nat × (Nat → Nat)) : Bool := x.1 && decide (sKd T L x.2.1 = 3)
theorem sb_n {x : Nat} (h : x < 128) : sb x = nI x := (sb_eq (by omega) h).mpr rfl
theorem sb_byt (v : Int64) {k : Nat} (hk : k < 8) : (v >>> ((nI (8 * k)).toInt64 &&& 63)).toInt32.toInt8.toInt32 = sb (sByte v k) := by
  unfold sb
  congr 1
  rw [Int64.toInt8_toInt32]
  apply Int8.toBitVec_inj.mp
  have hs : (((nI (8 * k)).toInt64 &&& 63).toBitVec.smod 64).toNat = 8 * k := by
    have h : ∀ k, k < 8 → (((nI (8 * k)).toInt64 &&& 63).toBitVec.smod 64).toNat = 8 * k := by decide
    exact h k hk
  rw [Int64.toBitVec_toInt8, Int64.toBitVec_shiftRight, Int32.toBitVec_toInt8, BitVec.sshiftRight_eq', hs]
  apply BitVec.eq_of_getLsbD_eq
  intro i hi
  have h1 : (nI (sByte v k)).toBitVec = BitVec.ofNat 32 (sByte v k) := rfl
  rw [BitVec.getLsbD_signExtend, BitVec.getLsbD_signExtend, BitVec.getLsbD_sshiftRight, h1, BitVec.getLsbD_ofNat]
  have h2 : (sByte v k).testBit i = v.toBitVec.getLsbD (8 * k + i) := by
    unfold sByte
    rw [show 256 = 2 ^ 8 from rfl, Nat.testBit_mod_two_pow, Nat.testBit_div_two_pow, decide_eq_true hi, Bool.true_and, Nat.add_comm i]
    rfl
  rw [h2]
  simp [show i < 64 by omega, show i < 32 by omega, show 8 * k + i < 64 by omega, show i < 8 from hi, show ¬ 64 ≤ i by omega]
/-! what writes do -/
theorem Rb.frost {M F : Nat → Nat} {E : Nat → Nat → Nat} (h : Rb M F E) (v : Nat) : Rb (nset M 1 v) (nset F 1 v) E := by
  obtain ⟨⟨h0, h1, h2, h3, h4⟩, h5, h6, h7⟩ := h
  have e : ∀ j, j ≠ 1 → nset M 1 v j = M j := fun j hj => nset_ne M v hj
  have f : ∀ j, j ≠ 1 → nset F 1 v j = F j := fun j hj => nset_ne F v hj
  refine ⟨⟨?_, ?_, ?_, ?_, ?_⟩, fun i hi => ?_, fun i hi => ?_, fun i hi => ?_⟩
  · rw [e 0 (by omega), f 0 (by omega)]; exact h0
  · rw [nset_same, nset_same]
  · rw [e 2 (by omega), f 2 (by omega)]; exact h2
  · rw [e 19 (by omega), f 3 (by omega)]; exact h3
  · rw [e 32 (by omega), f 4 (by omega)]; exact h4
  · rw [e _ (by omega), e _ (by omega)]; exact h5 i hi
  · rw [e 19 (by omega)] at hi; rw [e _ (by omega), e _ (by omega)]; exact h6 i hi
  · rw [e 32 (by omega)] at hi; rw [e _ (by omega), e _ (by omega), e _ (by omega)]; exact h7 i hi
theorem Rb.guard {M F : Nat → Nat} {E : Nat → Nat → Nat} (h : Rb M F E) (v : Nat) : Rb (nset M 2 v) (nset F 2 v) E := by
  obtain ⟨⟨h0, h1, h2, h3, h4⟩, h5, h6, h7⟩ := h
  have e : ∀ j, j ≠ 2 → nset M 2 v j = M j := fun j hj => nset_ne M v hj
  have f : ∀ j, j ≠ 2 → nset F 2 v j = F j := fun j hj => nset_ne F v hj
  refine ⟨⟨?_, ?_, ?_, ?_, ?_⟩, fun i hi => ?_, fun i hi => ?_, fun i hi => ?_⟩
  · rw [e 0 (by omega), f 0 (by omega)]; exact h0
  · rw [e 1 (by omega), f 1 (by omega)]; exact h1
  · rw [nset_same, nset_same]
  · rw [e 19 (by omega), f 3 (by omega)]; exact h3
  · rw [e 32 (by omega), f 4 (by omega)]; exact h4
  · rw [e _ (by omega), e _ (by omega)]; exact h5 i hi
  · rw [e 19 (by omega)] at hi; rw [e _ (by omega), e _ (by omega)]; exact h6 i hi
  · rw [e 32 (by omega)] at hi; rw [e _ (by omega), e _ (by omega), e _ (by omega)]; exact h7 i hi
theorem Rb.winds {M F : Nat → Nat} {E : Nat → Nat → Nat} (h : Rb M F E) {v : Nat} (hv : v ≤ M 19) (h6' : M 19 ≤ 6) : Rb (nset M 19 v) (nset F 3 v) E := by
  obtain ⟨⟨h0, h1, h2, h3, h4⟩, h5, h6, h7⟩ := h
  have e : ∀ j, j ≠ 19 → nset M 19 v j = M j := fun j hj => nset_ne M v hj
  have f : ∀ j, j ≠ 3 → nset F 3 v j = F j := fun j hj => nset_ne F v hj
  refine ⟨⟨?_, ?_, ?_, ?_, ?_⟩, fun i hi => ?_, fun i hi => ?_, fun i hi => ?_⟩
  · rw [e 0 (by omega), f 0 (by omega)]; exact h0
  · rw [e 1 (by omega), f 1 (by omega)]; exact h1
  · rw [e 2 (by omega), f 2 (by omega)]; exact h2
  · rw [nset_same, nset_same]
  · rw [e 32 (by omega), f 4 (by omega)]; exact h4
  · rw [e _ (by omega), e _ (by omega)]; exact h5 i hi
  · rw [nset_same] at hi; rw [e _ (by omega), e _ (by omega)]; exact h6 i (by omega)
  · rw [e 32 (by omega)] at hi; rw [e _ (by omega), e _ (by omega), e _ (by omega)]; exact h7 i hi
theorem Rb.passes {M F : Nat → Nat} {E : Nat → Nat → Nat} (h : Rb M F E) {v : Nat} (hv : v ≤ M 32) (h6' : M 19 ≤ 6) : Rb (nset M 32 v) (nset F 4 v) E := by
  obtain ⟨⟨h0, h1, h2, h3, h4⟩, h5, h6, h7⟩ := h
  have e : ∀ j, j ≠ 32 → nset M 32 v j = M j := fun j hj => nset_ne M v hj
  have f : ∀ j, j ≠ 4 → nset F 4 v j = F j := fun j hj => nset_ne F v hj
  refine ⟨⟨?_, ?_, ?_, ?_, ?_⟩, fun i hi => ?_, fun i hi => ?_, fun i hi => ?_⟩
  · rw [e 0 (by omega), f 0 (by omega)]; exact h0
  · rw [e 1 (by omega), f 1 (by omega)]; exact h1
  · rw [e 2 (by omega), f 2 (by omega)]; exact h2
  · rw [e 19 (by omega), f 3 (by omega)]; exact h3
  · rw [nset_same, nset_same]
  · rw [e _ (by omega), e _ (by omega)]; exact h5 i hi
  · rw [e 19 (by omega)] at hi; rw [e _ (by omega), e _ (by omega)]; exact h6 i hi
  · rw [nset_same] at hi; rw [e _ (by omega), e _ (by omega), e _ (by omega)]; exact h7 i (by omega)
theorem gset_same (G : Nat → Nat → Nat) (j : Nat) (f : Nat → Nat) : gset G j f j = f := if_pos rfl
theorem gset_ne (G : Nat → Nat → Nat) {j i : Nat} (f : Nat → Nat) (h : i ≠ j) : gset G j f i = G i := if_neg h
theorem Rb.wire {M F : Nat → Nat} {E : Nat → Nat → Nat} (h : Rb M F E) (h6' : M 19 ≤ 6) {w : Nat} (hw : w < 8) (kd t : Nat) : Rb (sWire M w kd t) F (gset (gset E 0 (nset (E 0) w kd)) 1 (nset (E 1) w t)) := by
  obtain ⟨⟨h0, h1, h2, h3, h4⟩, h5, h6, h7⟩ := h
  have e : ∀ j, j ≠ 3 + w → j ≠ 11 + w → sWire M w kd t j = M j := fun j a b => by unfold sWire; rw [nset_ne _ _ b, nset_ne _ _ a]
  have g0 : gset (gset E 0 (nset (E 0) w kd)) 1 (nset (E 1) w t) 0 = nset (E 0) w kd := rfl
  have g1 : gset (gset E 0 (nset (E 0) w kd)) 1 (nset (E 1) w t) 1 = nset (E 1) w t := rfl
  refine ⟨⟨?_, ?_, ?_, ?_, ?_⟩, fun i hi => ?_, fun i hi => ?_, fun i hi => ?_⟩
  · rw [e 0 (by omega) (by omega)]; exact h0
  · rw [e 1 (by omega) (by omega)]; exact h1
  · rw [e 2 (by omega) (by omega)]; exact h2
  · rw [e 19 (by omega) (by omega)]; exact h3
  · rw [e 32 (by omega) (by omega)]; exact h4
  · rw [g0, g1]
    by_cases q : i = w
    · subst q
      rw [nset_same, nset_same]
      unfold sWire
      rw [nset_ne _ _ (by omega), nset_same, nset_same]
      exact ⟨rfl, rfl⟩
    · rw [nset_ne _ _ q, nset_ne _ _ q, e _ (by omega) (by omega), e _ (by omega) (by omega)]; exact h5 i hi
  · rw [e 19 (by omega) (by omega)] at hi; rw [e _ (by omega) (by omega), e _ (by omega) (by omega)]; exact h6 i hi
  · rw [e 32 (by omega) (by omega)] at hi; rw [e _ (by omega) (by omega), e _ (by omega) (by omega), e _ (by omega) (by omega)]; exact h7 i hi
theorem Rb.addWind {M F : Nat → Nat} {E : Nat → Nat → Nat} (h : Rb M F E) (hc : M 19 < 6) (mn w : Nat) : Rb (sAddWind M mn w) (nset F 3 (F 3 + 1)) (gset (gset E 2 (nset (E 2) (F 3) mn)) 3 (nset (E 3) (F 3) w)) := by
  obtain ⟨⟨h0, h1, h2, h3, h4⟩, h5, h6, h7⟩ := h
  have e : ∀ j, j ≠ 20 + 2 * M 19 → j ≠ 20 + 2 * M 19 + 1 → j ≠ 19 → sAddWind M mn w j = M j := fun j a b c => by
    unfold sAddWind; rw [nset_ne _ _ c, nset_ne _ _ b, nset_ne _ _ a]
  have e19 : sAddWind M mn w 19 = M 19 + 1 := nset_same _ _ _
  have ea : sAddWind M mn w (20 + 2 * M 19) = mn := by unfold sAddWind; rw [nset_ne _ _ (by omega), nset_ne _ _ (by omega), nset_same]
  have eb : sAddWind M mn w (20 + 2 * M 19 + 1) = w := by unfold sAddWind; rw [nset_ne _ _ (by omega), nset_same]
  have f : ∀ j, j ≠ 3 → nset F 3 (F 3 + 1) j = F j := fun j hj => nset_ne F _ hj
  have g2 : gset (gset E 2 (nset (E 2) (F 3) mn)) 3 (nset (E 3) (F 3) w) 2 = nset (E 2) (F 3) mn := rfl
  have g3 : gset (gset E 2 (nset (E 2) (F 3) mn)) 3 (nset (E 3) (F 3) w) 3 = nset (E 3) (F 3) w := rfl
  refine ⟨⟨?_, ?_, ?_, ?_, ?_⟩, fun i hi => ?_, fun i hi => ?_, fun i hi => ?_⟩
  · rw [e 0 (by omega) (by omega) (by omega), f 0 (by omega)]; exact h0
  · rw [e 1 (by omega) (by omega) (by omega), f 1 (by omega)]; exact h1
  · rw [e 2 (by omega) (by omega) (by omega), f 2 (by omega)]; exact h2
  · rw [e19, nset_same, h3]
  · rw [e 32 (by omega) (by omega) (by omega), f 4 (by omega)]; exact h4
  · rw [e _ (by omega) (by omega) (by omega), e _ (by omega) (by omega) (by omega)]; exact h5 i hi
  · rw [e19] at hi
    rw [g2, g3, h3]
    by_cases q : i = M 19
    · subst q; rw [nset_same, nset_same, ea, eb]; exact ⟨rfl, rfl⟩
    · rw [nset_ne _ _ q, nset_ne _ _ q, e _ (by omega) (by omega) (by omega), e _ (by omega) (by omega) (by omega)]; exact h6 i (by omega)
  · rw [e 32 (by omega) (by omega) (by omega)] at hi
    rw [e _ (by omega) (by omega) (by omega), e _ (by omega) (by omega) (by omega), e _ (by omega) (by omega) (by omega)]; exact h7 i hi
theorem Rb.addPass {M F : Nat → Nat} {E : Nat → Nat → Nat} (h : Rb M F E) (h6' : M 19 ≤ 6) (mn w sp : Nat) : Rb (sAddPass M mn w sp) (nset F 4 (F 4 + 1)) (gset (gset (gset E 4 (nset (E 4) (F 4) mn)) 5 (nset (E 5) (F 4) w)) 6 (nset (E 6) (F 4) sp)) := by
  obtain ⟨⟨h0, h1, h2, h3, h4⟩, h5, h6, h7⟩ := h
  have e : ∀ j, j ≠ 33 + 3 * M 32 → j ≠ 33 + 3 * M 32 + 1 → j ≠ 33 + 3 * M 32 + 2 → j ≠ 32 → sAddPass M mn w sp j = M j := fun j a b c d => by
    unfold sAddPass; rw [nset_ne _ _ d, nset_ne _ _ c, nset_ne _ _ b, nset_ne _ _ a]
  have e32 : sAddPass M mn w sp 32 = M 32 + 1 := nset_same _ _ _
  have ea : sAddPass M mn w sp (33 + 3 * M 32) = mn := by unfold sAddPass; rw [nset_ne _ _ (by omega), nset_ne _ _ (by omega), nset_ne _ _ (by omega), nset_same]
  have eb : sAddPass M mn w sp (33 + 3 * M 32 + 1) = w := by unfold sAddPass; rw [nset_ne _ _ (by omega), nset_ne _ _ (by omega), nset_same]
  have ec : sAddPass M mn w sp (33 + 3 * M 32 + 2) = sp := by unfold sAddPass; rw [nset_ne _ _ (by omega), nset_same]
  have e' : ∀ j, j < 32 → sAddPass M mn w sp j = M j := fun j hj => e j (by omega) (by omega) (by omega) (by omega)
  have f : ∀ j, j ≠ 4 → nset F 4 (F 4 + 1) j = F j := fun j hj => nset_ne F _ hj
  have g4 : gset (gset (gset E 4 (nset (E 4) (F 4) mn)) 5 (nset (E 5) (F 4) w)) 6 (nset (E 6) (F 4) sp) 4 = nset (E 4) (F 4) mn := rfl
  have g5 : gset (gset (gset E 4 (nset (E 4) (F 4) mn)) 5 (nset (E 5) (F 4) w)) 6 (nset (E 6) (F 4) sp) 5 = nset (E 5) (F 4) w := rfl
  have g6 : gset (gset (gset E 4 (nset (E 4) (F 4) mn)) 5 (nset (E 5) (F 4) w)) 6 (nset (E 6) (F 4) sp) 6 = nset (E 6) (F 4) sp := rfl
  refine ⟨⟨?_, ?_, ?_, ?_, ?_⟩, fun i hi => ?_, fun i hi => ?_, fun i hi => ?_⟩
  · rw [e' 0 (by omega), f 0 (by omega)]; exact h0
  · rw [e' 1 (by omega), f 1 (by omega)]; exact h1
  · rw [e' 2 (by omega), f 2 (by omega)]; exact h2
  · rw [e' 19 (by omega), f 3 (by omega)]; exact h3
  · rw [e32, nset_same, h4]
  · rw [e' _ (by omega), e' _ (by omega)]; exact h5 i hi
  · rw [e' 19 (by omega)] at hi; rw [e' _ (by omega), e' _ (by omega)]; exact h6 i hi
  · rw [e32] at hi
    rw [g4, g5, g6, h4]
    by_cases q : i = M 32
    · subst q; rw [nset_same, nset_same, nset_same, ea, eb, ec]; exact ⟨rfl, rfl, rfl⟩
    · rw [nset_ne _ _ q, nset_ne _ _ q, nset_ne _ _ q, e _ (by omega) (by omega) (by omega) (by omega), e _ (by omega) (by omega) (by omega) (by omega), e _ (by omega) (by omega) (by omega) (by omega)]; exact h7 i (by omega)
theorem Rb.begin (N F : Nat → Nat) (E : Nat → Nat → Nat) (v : Nat) : Rb (sBegin N v) (nset (nset (nset (nset (nset F 0 v) 1 0) 2 0) 3 0) 4 0) (gset (gset E 0 (zfill (E 0) 8)) 1 (zfill (E 1) 8)) := by
  have e : ∀ j, j ≠ 0 → j < 57 → sBegin N v j = 0 := fun j h h' => by unfold sBegin; rw [nset_ne _ _ h]; exact if_pos h'
  have e0 : sBegin N v 0 = v := nset_same _ _ _
  have z : ∀ (f : Nat → Nat) i, i < 8 → zfill f 8 i = 0 := fun f i hi => if_pos hi
  refine ⟨⟨?_, ?_, ?_, ?_, ?_⟩, fun i hi => ?_, fun i hi => ?_, fun i hi => ?_⟩
  · rw [e0]; rfl
  · rw [e 1 (by omega) (by omega)]; rfl
  · rw [e 2 (by omega) (by omega)]; rfl
  · rw [e 19 (by omega) (by omega)]; rfl
  · rw [e 32 (by omega) (by omega)]; rfl
  · rw [e _ (by omega) (by omega), e _ (by omega) (by omega)]; exact ⟨z _ i hi, z _ i hi⟩
  · rw [e 19 (by omega) (by omega)] at hi; omega
  · rw [e 32 (by omega) (by omega)] at hi; omega
theorem Rb.copy {M F F2 : Nat → Nat} {E E2 : Nat → Nat → Nat} (h : Rb M F2 E2) (h6 : M 19 ≤ 6) (h8 : M 32 ≤ 8) : Rb M (nset (nset (nset (nset (nset F 0 (F2 0)) 1 (F2 1)) 2 (F2 2)) 3 (F2 3)) 4 (F2 4)) (gset (gset (gset (gset (gset (gset (gset E 0 (ccpy (E 0) (E2 0) 8)) 1 (ccpy (E 1) (E2 1) 8)) 2 (ccpy (E 2) (E2 2) 6)) 3 (ccpy (E 3) (E2 3) 6)) 4 (ccpy (E 4) (E2 4) 8)) 5 (ccpy (E 5) (E2 5) 8)) 6 (ccpy (E 6) (E2 6) 8)) := by
  obtain ⟨⟨h0, h1, h2, h3, h4⟩, h5, h66, h7⟩ := h
  have c : ∀ (f g : Nat → Nat) n i, i < n → ccpy f g n i = g i := fun f g n i hi => if_pos hi
  refine ⟨⟨h0, h1, h2, h3, h4⟩, fun i hi => ?_, fun i hi => ?_, fun i hi => ?_⟩
  · show ccpy (E 0) (E2 0) 8 i = _ ∧ ccpy (E 1) (E2 1) 8 i = _
    rw [c _ _ _ _ hi, c _ _ _ _ hi]; exact h5 i hi
  · show ccpy (E 2) (E2 2) 6 i = _ ∧ ccpy (E 3) (E2 3) 6 i = _
    rw [c _ _ _ _ (by omega), c _ _ _ _ (by omega)]; exact h66 i hi
  · show ccpy (E 4) (E2 4) 8 i = _ ∧ ccpy (E 5) (E2 5) 8 i = _ ∧ ccpy (E 6) (E2 6) 8 i = _
    rw [c _ _ _ _ (by omega), c _ _ _ _ (by omega), c _ _ _ _ (by omega)]; exact h7 i hi
theorem Rb.ext {M M' F : Nat → Nat} {E : Nat → Nat → Nat} (h : Rb M F E) (hf : Wf M) (he : ∀ j, j < 57 → M' j = M j) : Rb M' F E := by
  obtain ⟨⟨h0, h1, h2, h3, h4⟩, h5, h66, h7⟩ := h
  have f4 := hf.pc
  have f5 := hf.wc
  refine ⟨⟨?_, ?_, ?_, ?_, ?_⟩, fun i hi => ?_, fun i hi => ?_, fun i hi => ?_⟩
  · rw [he 0 (by omega)]; exact h0
  · rw [he 1 (by omega)]; exact h1
  · rw [he 2 (by omega)]; exact h2
  · rw [he 19 (by omega)]; exact h3
  · rw [he 32 (by omega)]; exact h4
  · rw [he _ (by omega), he _ (by omega)]; exact h5 i hi
  · rw [he 19 (by omega)] at hi; rw [he _ (by omega), he _ (by omega)]; exact h66 i hi
  · rw [he 32 (by omega)] at hi; rw [he _ (by omega), he _ (by omega), he _ (by omega)]; exact h7 i hi
theorem Wf.ext {M M' : Nat → Nat} (hf : Wf M) (he : ∀ j, j < 57 → M' j = M j) : Wf M' := by
  have f4 := hf.pc
  have f5 := hf.wc
  obtain ⟨h0, h1, h2, h3, h4, h5⟩ := hf
  refine ⟨by rw [he 0 (by omega)]; exact h0, by rw [he 1 (by omega)]; exact h1, by rw [he 2 (by omega), he 0 (by omega)]; exact h2, fun w hw => ?_, ⟨by rw [he 19 (by omega)]; exact h4.1, fun i hi => ?_⟩, ⟨by rw [he 32 (by omega)]; exact h5.1, fun i hi => ?_⟩⟩
  · rw [he _ (by omega), he _ (by omega)]; exact h3 w hw
  · rw [he 19 (by omega)] at hi; rw [he (20 + 2 * i) (by omega), he (20 + 2 * i + 1) (by omega), he 0 (by omega)]; exact h4.2 i hi
  · rw [he 32 (by omega)] at hi; rw [he (33 + 3 * i) (by omega), he (33 + 3 * i + 1) (by omega), he (33 + 3 * i + 2) (by omega), he 0 (by omega)]; exact h5.2 i hi
