/-! BASE 6: what the class takes as given beside its world; nest mates; parts of worlds -/
def nestM : List (String × Nat × MethodName) := [(RX0, 59, yX5_inRow), (RX0, 67, yX5_has), (RX0, 70, yX5_loudBy), (RX0, 74, yX5_noteBy), (RX1, 116, yX5_within), (RX3, 60, yX5_noteBy), (RX3, 68, yX5_has), (RX5, 11, yX0_init), (RX5, 29, yX1_init), (RX5, 36, yX4_init), (RX5, 43, yX3_init), (RX5, 50, yX2_init)]
def nestF : List (String × Nat) := [(RX0, 99), (RX4, 46)]
def wdIx : List Nat := [38, 58, 63, 68, 73, 78]
def wdTx : List String := ["posts", "wire", "frost", "guard", "wind", "pass"]
def wdLen : List Nat := [5, 4, 5, 5, 4, 4]
def wdByt : List (List Int32) := [[112, 111, 115, 116, 115], [119, 105, 114, 101], [102, 114, 111, 115, 116], [103, 117, 97, 114, 100], [119, 105, 110, 100], [112, 97, 115, 115]]
def Am (tS : Nat) (sk sv : Nat → Nat) : (Nat → Prop) → State → Heap → Prop := fun A U H =>
  ((∀ q ∈ nestM, va_Nw (.methodLinkNest q.1 q.2.1 q.2.2 "BorderHarp") U) ∧ (∀ q ∈ nestF, va_Nw (.fieldLinkNest q.1 q.2 "BorderHarp" "STRENGTHS" "[I" "BorderHarp") U) ∧ (∀ i, i < 6 → vk_R RX1 (wdIx.getD i 0) (wdTx.getD i "") (sk i) U)) ∧
  va_Z "BorderHarp" "STRENGTHS" "[I" (.ref tS) A U H ∧ va_T .int tS 4 (fun j => .int (nI (sStr j))) A U H ∧ vk_S 6 wdLen wdByt sk sv A U H ∧ va_Z "java/lang/String" "COMPACT_STRINGS" "Z" (.int 1) A U H ∧ va_Zq "jdk/internal/util/Preconditions" "SIOOBE_FORMATTER" "Ljava/util/function/BiFunction;" A U H
theorem okAm (tS : Nat) (sk sv : Nat → Nat) : okY (Am tS sk sv) := by
  refine ⟨fun A s U H hW h => ?_, fun A U H H1 hq h => ?_, fun A B U H hAB h => ?_, fun A U H g mk a h => ?_⟩
  · obtain ⟨⟨h1, h2, h3⟩, h4, h5, h6, h7, h8⟩ := h
    exact ⟨⟨fun q hq => va_Nw.warmM hW (h1 q hq), fun q hq => va_Nw.warmF hW (h2 q hq), fun i hi => vk_R.warm hW (h3 i hi)⟩, va_Z.moved hW.alike h4, va_T.moved hW.alike h5, vk_S.moved hW.alike h6, va_Z.moved hW.alike h7, va_Zq.moved hW.alike h8⟩
  · obtain ⟨h0, h4, h5, h6, h7, h8⟩ := h
    exact ⟨h0, h4.kept hq, h5.kept hq, h6.kept hq, h7.kept hq, h8.kept hq⟩
  · obtain ⟨h0, h4, h5, h6, h7, h8⟩ := h
    exact ⟨h0, h4.narrow hAB, h5.narrow hAB, h6.narrow hAB, h7.narrow hAB, h8.narrow hAB⟩
  · obtain ⟨⟨h1, h2, h3⟩, h4, h5, h6, h7, h8⟩ := h
    have hal : U.vm.Alike (U.calling g mk a).vm := Vm.Alike.refl U.vm
    exact ⟨⟨fun q hq => va_Nw.same rfl (u := U) rfl (h1 q hq), fun q hq => va_Nw.same rfl (u := U) rfl (h2 q hq), fun i hi => vk_R.same (u := U) rfl (h3 i hi)⟩, va_Z.moved hal h4, va_T.moved hal h5, vk_S.moved hal h6, va_Z.moved hal h7, va_Zq.moved hal h8⟩
section BASE6
variable {p : Program} {l : Launch} {e : Env} {R : Room} {s : State} {m : MethodId} {args : Array Value} {below : List Frame} {meth : Method} {c : Code} {H : Heap} {locs : List Loc} {Q : State → Prop} {cells slots : Nat}
variable {cc bytes : ByteArray} {nL maxL pc index n : Nat} {ls : Array Slot} {rest st0 As : List Value} {Ts wsC wsC' : List Cond} {own : String} {y : MethodName} {rm : Room} {ret : Option FieldType} {D : va_G} {A : Nat → Prop} {tS : Nat} {sk sv : Nat → Nat} {r : Int32}
/-- a static method of the nest, numbers alone -/
theorem rdSN (hz : CallFix p m c cc nL s args Ts own) {B : State → Prop} (hM : Met l y wsC rm (va_Pc As B) (QcRead r) 0 0 (fun _ => False)) (hB : B = fun _ => True) (hG : GoodIn Ts wsC) (hw : wsC = Cond.code y bytes maxL ret :: wsC') (hrm : rm.cells = 0 ∧ rm.slots = 0) (hy : Am tS sk sv A s s.heap) (hl : (own, index, y) ∈ nestM) (hini : Cond.initialized y.cls ∈ Ts) (hst9 : Cond.static y ∈ Ts)
    (hd : y.cls ≠ "java/lang/invoke/MethodHandle" ∧ y.cls ≠ "java/lang/invoke/VarHandle" ∧ (parseMethodDescriptor y.desc).map (fun d => d.parameters.length) = some n) (hR : rm.frames + 1 ≤ R.frames ∧ 8 + (maxL + 11) + rm.locals ≤ R.locals)
    (hn : As.length = n) (hsz : ls.size = nL) (hst : st0 = As.reverse ++ rest) (hW : (rest.map fun v => v.category).sum ≤ 8) (hdg : decode cc pc = .ok (.invokestatic index, 3)) (hf : cells ≤ R.cells ∧ slots ≤ R.slots)
    (kk : W p l e R s m args below meth c H locs cells slots Q (F0 m (pc + 3) ls (.int r :: rest))) : W p l e R s m args below meth c H locs cells slots Q (F0 m pc ls st0) := by
  subst hB
  have hr : va_Run p l e R s m args below meth c H locs cells slots 0 0 (F0 m pc ls st0) rest (QcRead r As.toArray) (fun _ => False) := va_runSN (As := As) (rest := rest) (g := F0 m pc ls st0) (host := "BorderHarp") hz hM ⟨va_cnB n hz.2.2.2.2 hG hw hrm.1 hrm.2 (hy.1.1 _ hl) (hz.2.2.2.2 _ hini) hd hR, hz.2.2.2.2 _ hst9, trivial⟩ ⟨fun a U g mk q => q, fun U hU hWm => ⟨rfl, trivial⟩⟩ rfl hn hsz hst (lv_room hW) hdg hf
  intro T hT X
  obtain ⟨v, st₀, t, T', L, h0, X', hL, e1, -, ⟨hv, hh⟩, st⟩ := hr T hT X
  cases hv
  obtain ⟨t2, a1, b1⟩ := kk T' (by rw [e1, hh, h0]) (Stand.forget X' (fun q h => (hL q h).elim))
  exact ⟨t2, st t2 a1, b1⟩
/-- STRENGTHS, by a nest mate -/
theorem rgsN (hz : CallFix p m c cc nL s args Ts own) (hy : Am tS sk sv A s s.heap) (hS : va_S A s.heap H locs) (hl : (own, index) ∈ nestF) (hdg : decode cc pc = .ok (.getstatic index, 3))
    (kk : W p l e R s m args below meth c H locs cells slots Q (F0 m (pc + 3) ls (.ref tS :: rest))) : W p l e R s m args below meth c H locs cells slots Q (F0 m pc ls rest) :=
  va_getsN hz.1 hz.2.1 hy.2.1 hS hz.2.2.2.1 (va_Nw.use rfl (hy.1.2.1 _ hl)) (fun _ h => h) hdg kk
/-- STRENGTHS, by its own class -/
theorem rgsO (hz : CallFix p m c cc nL s args Ts own) (hy : Am tS sk sv A s s.heap) (hS : va_S A s.heap H locs) (hl : Cond.fieldLink own index "BorderHarp" "STRENGTHS" "[I" ∈ Ts) (hdg : decode cc pc = .ok (.getstatic index, 3))
    (kk : W p l e R s m args below meth c H locs cells slots Q (F0 m (pc + 3) ls (.ref tS :: rest))) : W p l e R s m args below meth c H locs cells slots Q (F0 m pc ls rest) :=
  va_gets hz.1 hz.2.1 hy.2.1 hS hz.2.2.2.1 (hz.2.2.2.2 _ hl) (fun _ h => h) hdg kk
theorem rti {i : Nat} (hz : CallFix p m c cc nL s args Ts own) (hy : Am tS sk sv A s s.heap) (hS : va_S A s.heap H locs) (hi : i < 4) (hdg : decode cc pc = .ok (.iaload, 1))
    (kk : W p l e R s m args below meth c H locs cells slots Q (F0 m (pc + 1) ls (.int (nI (sStr i)) :: rest))) : W p l e R s m args below meth c H locs cells slots Q (F0 m pc ls (.int (nI i) :: .ref tS :: rest)) :=
  va_ti hz.1 hz.2.1 hy.2.2.1 hS (vp_in_nI hi (by decide)) (v := .int (nI (sStr i))) (by rw [nI_clamp (by omega)]) hdg kk
end BASE6
/-- a part of a world that a call has written, put back into its places -/
def wput (is : List Nat) (w1 ws : va_W) : va_W := (is.zip w1).foldl (fun w x => w.set x.1 x.2) ws
theorem wput_at : ∀ (zs : List (Nat × (Nat × va_E))) (ws : va_W) (k : Nat) (q : Nat × va_E), (zs.foldl (fun w x => w.set x.1 x.2) ws)[k]? = some q → (∃ x ∈ zs, x.2 = q) ∨ (k ∉ zs.map (fun x => x.1) ∧ ws[k]? = some q)
  | [], ws, k, q, h => Or.inr ⟨by simp, h⟩
  | z :: zs, ws, k, q, h => by
    rcases wput_at zs (ws.set z.1 z.2) k q h with ⟨x, hx, e⟩ | ⟨h1, h2⟩
    · exact Or.inl ⟨x, List.mem_cons_of_mem _ hx, e⟩
    · by_cases e : z.1 = k
      · rw [e, List.getElem?_set] at h2
        simp only [if_true] at h2
        split at h2
        · exact Or.inl ⟨z, List.mem_cons_self, Option.some.inj h2⟩
        · cases h2
      · rw [List.getElem?_set, if_neg e] at h2
        refine Or.inr ⟨?_, h2⟩
        rw [List.map_cons, List.mem_cons]
        exact fun q => q.elim (fun q => e q.symm) h1
theorem wJn {D : va_G} {cl : List vw_C} {A : Nat → Prop} {ws wc w1 : va_W} {H H1 : Heap} (hP : va_P D cl ws H) (hD : va_D A ws) (is : List Nat) (hC : is.map (fun i => ws[i]?) = wc.map some) (hlen : w1.length = is.length) (hP1 : va_P D cl w1 H1) (hfr : ∀ q : Nat, q < H.size → ¬ wA wc q → H1[q]? = H[q]?) : va_P D cl (wput is w1 ws) H1 := by
  intro k q hk
  rcases wput_at _ ws k q hk with ⟨x, hx, e⟩ | ⟨h1, h2⟩
  · have hm : q ∈ w1 := by rw [← e]; exact (List.of_mem_zip (show (x.1, x.2) ∈ is.zip w1 from hx)).2
    obtain ⟨j, hj⟩ := List.mem_iff_getElem?.mp hm
    exact hP1 j q hj
  · have hmap : (is.zip w1).map (fun x => x.1) = is := by
      rw [show (fun (x : Nat × (Nat × va_E)) => x.1) = Prod.fst from rfl, List.map_fst_zip (by omega)]
    rw [hmap] at h1
    refine (hP k q h2).kept (hfr _ ((hP k q h2).lt) ?_)
    rintro ⟨j, e, hj⟩
    have hj2 : (wc.map some)[j]? = some (some (q.1, e)) := by rw [List.getElem?_map, hj]; rfl
    rw [← hC, List.getElem?_map] at hj2
    cases hi : is[j]? with
    | none => rw [hi] at hj2; cases hj2
    | some i =>
      rw [hi] at hj2
      have hw : ws[i]? = some (q.1, e) := Option.some.inj hj2
      have hik : i = k := hD.1 i k _ _ hw h2 rfl
      exact h1 (by rw [← hik]; exact List.mem_of_getElem? hi)
/-- the world of a border of the class: its own cell, then its seven rows -/
def bw (a : Nat → Nat) (o : Nat) (k : Nat → ClassId) (F : Nat → Nat) (E : Nat → Nat → Nat) : va_W :=
  [(a o, .inr (0, [.int (nI (F 0)), .int (nI (F 1)), .int (nI (F 2)), .int (nI (F 3)), .int (nI (F 4)), .ref (a (o + 1)), .ref (a (o + 2)), .ref (a (o + 3)), .ref (a (o + 4)), .ref (a (o + 5)), .ref (a (o + 6)), .ref (a (o + 7))])),
   (a (o + 1), .inl (k 0, 8, .inl (fun i => nI (E 0 i)))), (a (o + 2), .inl (k 0, 8, .inl (fun i => nI (E 1 i)))), (a (o + 3), .inl (k 0, 6, .inl (fun i => nI (E 2 i)))), (a (o + 4), .inl (k 0, 6, .inl (fun i => nI (E 3 i)))),
   (a (o + 5), .inl (k 0, 8, .inl (fun i => nI (E 4 i)))), (a (o + 6), .inl (k 0, 8, .inl (fun i => nI (E 5 i)))), (a (o + 7), .inl (k 0, 8, .inl (fun i => nI (E 6 i))))]
/-- the class's border holds M -/
def Rb (M F : Nat → Nat) (E : Nat → Nat → Nat) : Prop :=
  (F 0 = M 0 ∧ F 1 = M 1 ∧ F 2 = M 2 ∧ F 3 = M 19 ∧ F 4 = M 32) ∧ (∀ i, i < 8 → E 0 i = M (3 + i) ∧ E 1 i = M (11 + i)) ∧ (∀ i, i < M 19 → E 2 i = M (20 + 2 * i) ∧ E 3 i = M (20 + 2 * i + 1)) ∧ (∀ i, i < M 32 → E 4 i = M (33 + 3 * i) ∧ E 5 i = M (33 + 3 * i + 1) ∧ E 6 i = M (33 + 3 * i + 2))
