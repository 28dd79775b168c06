/-! BASE: words for worlds, entry, exits, calls; numbers by nI -/
/-- a truth value as an int -/
def bI (b : Bool) : Int32 := if b then 1 else 0
theorem bI_t : bI true = 1 := rfl
theorem bI_f : bI false = 0 := rfl
theorem bI_nar (b : Bool) : narrow .boolean (.int (bI b)) = .int (bI b) := by cases b <;> rfl
theorem bI_tt {b : Bool} (h : ¬ bI b = 0) : b = true := by
  cases b
  · exact absurd rfl h
  · rfl
theorem bI_ff {b : Bool} (h : bI b = 0) : b = false := by
  cases b
  · rfl
  · exact absurd h (by decide)
theorem bI_eq1 {b : Bool} : bI b = 1 ↔ b = true := by cases b <;> decide
def tyL (k : Nat → ClassId) : List (ClassId × FieldType) := [(k 0, .int), (k 1, .byte), (k 2, .boolean), (k 3, .object "BorderHarp$Border"), (k 4, .array .int)]
/-- the addresses of a world -/
def wA (ws : va_W) : Nat → Prop := fun q => ∃ (i : Nat) (e : va_E), ws[i]? = some (q, e)
/-- what a method may take as given beside its world: it must bear calls, warmth, writes elsewhere -/
def okY (Y : (Nat → Prop) → State → Heap → Prop) : Prop :=
  (∀ (A : Nat → Prop) (s U : State) (H : Heap), s.WarmedH U.vm → Y A s H → Y A U H) ∧
  (∀ (A : Nat → Prop) (U : State) (H H1 : Heap), (∀ a : Nat, a < H.size → ¬ A a → H1[a]? = H[a]?) → Y A U H → Y A U H1) ∧
  (∀ (A B : Nat → Prop) (U : State) (H : Heap), (∀ q, B q → A q) → Y A U H → Y B U H) ∧
  (∀ (A : Nat → Prop) (U : State) (H : Heap) (g : JFrame) (mk : MethodId) (a : Array Value), Y A U H → Y A (U.calling g mk a) H)
def YT : (Nat → Prop) → State → Heap → Prop := fun _ _ _ => True
theorem okYT : okY YT := ⟨fun _ _ _ _ _ _ => trivial, fun _ _ _ _ _ _ => trivial, fun _ _ _ _ _ _ => trivial, fun _ _ _ _ _ _ _ => trivial⟩
/-- the start of a contract: the world holds, its cells are apart -/
def wH (Y : (Nat → Prop) → State → Heap → Prop) (D : va_G) (k : Nat → ClassId) (ws : va_W) (U : State) : Prop :=
  va_P D vwCl ws U.heap ∧ va_K D vwCl (tyL k) U ∧ va_D (fun _ => True) ws ∧ Y (wA ws) U U.heap
theorem wH.blind {Y : (Nat → Prop) → State → Heap → Prop} (hY : okY Y) {D : va_G} {k : Nat → ClassId} {ws : va_W} {av : List Value} : FrameBlind (va_Pc av (wH Y D k ws)) := by
  intro a U g mk q
  obtain ⟨q0, qP, qK, qD, qY⟩ := q
  exact ⟨q0, qP, va_K.moved (u := U) (U := U.calling g mk a) (Vm.Alike.refl U.vm) qK, qD, hY.2.2.2 _ _ _ g mk a qY⟩
theorem wA.self {ws : va_W} (h : va_D (fun _ => True) ws) : va_D (wA ws) ws := ⟨h.1, fun i q hq => ⟨i, q.2, hq⟩⟩
theorem wA.of {A : Nat → Prop} {ws : va_W} (h : va_D A ws) : ∀ q, wA ws q → A q := fun q ⟨i, e, hi⟩ => h.2 i (q, e) hi
theorem va_D.any {A : Nat → Prop} {ws : va_W} (h : va_D A ws) : va_D (fun _ => True) ws := ⟨h.1, fun _ _ _ => trivial⟩
theorem va_D.same {A : Nat → Prop} {ws ws' : va_W} (h : va_D A ws) (e : ws'.map (fun q => q.1) = ws.map (fun q => q.1)) : va_D A ws' := by
  have key : ∀ (i : Nat) (q : Nat × va_E), ws'[i]? = some q → ∃ q', ws[i]? = some q' ∧ q'.1 = q.1 := by
    intro i q hq
    have h1 : (ws'.map (fun q => q.1))[i]? = some q.1 := by rw [List.getElem?_map, hq]; rfl
    rw [e, List.getElem?_map] at h1
    cases h2 : ws[i]? with
    | none => rw [h2] at h1; cases h1
    | some q' => rw [h2] at h1; exact ⟨q', rfl, Option.some.inj h1⟩
  refine ⟨fun i j p q hp hq hpq => ?_, fun i q hq => ?_⟩
  · obtain ⟨p', h1, h2⟩ := key i p hp
    obtain ⟨q', h3, h4⟩ := key j q hq
    exact h.1 i j p' q' h1 h3 (by rw [h2, h4, hpq])
  · obtain ⟨q', h1, h2⟩ := key i q hq
    rw [← h2]
    exact h.2 i q' h1
section BASE
variable {p : Program} {l : Launch} {e : Env} {R : Room} {s : State} {m : MethodId} {args : Array Value} {below : List Frame} {meth : Method} {c : Code} {H : Heap} {locs : List Loc} {Q : State → Prop} {cells slots : Nat}
variable {cc bytes : ByteArray} {nL maxL pc index n : Nat} {ls : Array Slot} {rest st0 As : List Value} {Ts wsC wsC' : List Cond} {own : String} {y : MethodName} {rm : Room} {ret : Option FieldType} {Y : (Nat → Prop) → State → Heap → Prop} {D : va_G} {k : Nat → ClassId} {wc : va_W} {b : Nat} {r : Int32} {A : Nat → Prop}
theorem my_entry {av : List Value} {B : State → Prop} {Qc : Array Value → State → Outcome → State → Prop} {free : Addr → Prop} (hy : plainName y.cls = true) (hw : wsC = Cond.code y cc maxL ret :: wsC') (hn : (lg_sl av).length ≤ maxL)
    (body : ∀ (p : Program) (e : Env) (s : State) (m : MethodId) (below : List Frame) (meth : Method) (c : Code), CallFix p m c cc maxL s av.toArray wsC y.cls → meth.sig.returnType = ret → meth.locks = false → B s → ∀ ls : Array Slot, lv_has ls maxL (lv_args 0 av) → W p l e rm s m av.toArray below meth c s.heap [] 0 0 (MQ below Qc av.toArray s 0 0 free) (F0 m 0 ls [])) :
    Met l y wsC rm (va_Pc av B) Qc 0 0 free := by
  refine Met.ofW (cc := cc) (maxL := maxL) (ret := ret) hy hw ?_
  intro p e s m args below meth c s₁ Bd hml hv
  obtain ⟨rfl, hB⟩ := hv
  have hts := atoms_spec (ws := wsC) Bd.pre
  have hown : s.vm.findClass y.cls = some m.cls := findClass_of_methodNamed Bd.named
  have hl := lv_entry av (n := maxL) hn
  rw [lg_entry_eq]
  generalize (lg_sl av ++ List.replicate (maxL - (lg_sl av).length) Slot.unset).toArray = ls at hl ⊢
  exact body p e s m below meth c ⟨Bd.exec, Bd.bytes, hml, hown, hts⟩ Bd.returns Bd.notSynchronized hB ls hl
theorem rd_iret (hz : CallFix p m c cc nL s args Ts own) (hr : meth.sig.returnType = some .int) (hlk : meth.locks = false) {v : Int32} (hdg : decode cc pc = .ok (.ireturn, 1)) (hv : v = r) :
    W p l e R s m args below meth c s.heap [] cells slots (MQ below (QcRead r) args s cells slots (fun _ => False)) (F0 m pc ls [.int v]) := by
  subst hv
  exact W.iret hz.1 hz.2.1 hr (fun t ht _ => ⟨rfl, ht⟩) (fun q hq => by cases hq) hdg hlk
theorem rd_zret (hz : CallFix p m c cc nL s args Ts own) (hr : meth.sig.returnType = some .boolean) (hlk : meth.locks = false) {v : Int32} {z : Bool} (hdg : decode cc pc = .ok (.ireturn, 1)) (hv : v = bI z) :
    W p l e R s m args below meth c s.heap [] cells slots (MQ below (QcRead (bI z)) args s cells slots (fun _ => False)) (F0 m pc ls [.int v]) := by
  subst hv
  exact W.zret hz.1 hz.2.1 hr (bI_nar z) (fun t ht _ => ⟨rfl, ht⟩) (fun q hq => by cases hq) hdg hlk
theorem rd_lret (hz : CallFix p m c cc nL s args Ts own) (hr : meth.sig.returnType = some .long) (hlk : meth.locks = false) {v r : Int64} (hdg : decode cc pc = .ok (.lreturn, 1)) (hv : v = r) :
    W p l e R s m args below meth c s.heap [] cells slots (MQ below (k2_QcV (.long r)) args s cells slots (fun _ => False)) (F0 m pc ls [.long v]) := by
  subst hv
  exact W.lret hz.1 hz.2.1 hr (fun t ht _ => ⟨rfl, ht⟩) (fun q hq => by cases hq) hdg hlk
theorem wY (hY : okY Y) {wc : va_W} (hy : Y A s s.heap) (hD : va_D A wc) (hS : va_S A s.heap H locs) {U : State} (hU : U.heap = H) (hW : s.WarmedH U.vm) : Y (wA wc) U U.heap := by
  rw [hU]
  exact hY.1 _ _ _ _ hW (hY.2.2.1 _ _ _ _ (wA.of hD) (hY.2.1 _ _ _ _ (fun a h1 h2 => hS.2.1 a h1 h2) hy))
/-- a call of a method that only reads and answers an int -/
theorem rdV (hz : CallFix p m c cc nL s args Ts own) (hY : okY Y) (hM : Met l y wsC rm (va_Pc (.ref b :: As) (wH Y D k wc)) (QcRead r) 0 0 (fun _ => False)) {C : String} (cw : CallW R s args own C index y bytes maxL ret wsC rm 0 0 n)
    (hK : va_K D vwCl (tyL k) s) (hy : Y A s s.heap) (hP : va_P D vwCl wc H) (hD : va_D A wc) (hS : va_S A s.heap H locs) (q0 ci : Nat) {q : vw_C} {fs : List Value} (hc : vwCl[ci]? = some q) (hC : q.1 = C) (he : wc[q0]? = some (b, .inr (ci, fs)))
    (hn : As.length = n) (hsz : ls.size = nL) (hst : st0 = As.reverse ++ .ref b :: rest) (hW : (rest.map fun v => v.category).sum ≤ 8) (hdg : decode cc pc = .ok (.invokevirtual index, 3)) (hf : cells ≤ R.cells ∧ slots ≤ R.slots)
    (kk : W p l e R s m args below meth c H locs cells slots Q (F0 m (pc + 3) ls (.int r :: rest))) : W p l e R s m args below meth c H locs cells slots Q (F0 m pc ls st0) := by
  subst hC
  exact W.callR (W.runV (As := As) (rest := rest) (b := b) (g := F0 m pc ls st0) hz hM cw ⟨wH.blind hY, va_recv hK hP hc he, fun U hU hWm => ⟨rfl, by rw [hU]; exact hP, va_K.moved hWm.alike hK, hD.any, wY hY hy hD hS hU hWm⟩⟩ rfl hn hsz hst (lv_room hW) hdg hf) kk
/-- a call of a static method that only reads numbers -/
theorem rdS (hz : CallFix p m c cc nL s args Ts own) {B : State → Prop} (hM : Met l y wsC rm (va_Pc As B) (QcRead r) 0 0 (fun _ => False)) (hB : B = fun _ => True) (cw : CallB R s args own index y bytes maxL ret wsC rm 0 0 n ∧ (Cond.static y).before args s = true)
    (hn : As.length = n) (hsz : ls.size = nL) (hst : st0 = As.reverse ++ rest) (hW : (rest.map fun v => v.category).sum ≤ 8) (hdg : decode cc pc = .ok (.invokestatic index, 3)) (hf : cells ≤ R.cells ∧ slots ≤ R.slots)
    (kk : W p l e R s m args below meth c H locs cells slots Q (F0 m (pc + 3) ls (.int r :: rest))) : W p l e R s m args below meth c H locs cells slots Q (F0 m pc ls st0) := by
  subst hB
  exact W.callR (W.runS (As := As) (rest := rest) (g := F0 m pc ls st0) hz hM cw ⟨fun a U g mk q => q, fun U hU hWm => ⟨rfl, trivial⟩⟩ rfl hn hsz hst (lv_room hW) hdg hf) kk
/-- the top of the stack by another name -/
theorem toe {x z : Int32} (h : x = z) (kk : W p l e R s m args below meth c H locs cells slots Q (F0 m pc ls (.int z :: rest))) : W p l e R s m args below meth c H locs cells slots Q (F0 m pc ls (.int x :: rest)) := by rw [h]; exact kk
theorem toeL {x z : Int64} (h : x = z) (kk : W p l e R s m args below meth c H locs cells slots Q (F0 m pc ls (.long z :: rest))) : W p l e R s m args below meth c H locs cells slots Q (F0 m pc ls (.long x :: rest)) := by rw [h]; exact kk
/-- a field of an object of the world -/
theorem rg {ws : va_W} {a : Nat} (hz : CallFix p m c cc nL s args Ts own) {ref C : String} {T : u_T} {N ci : Nat} (hin : ∀ w ∈ u_ws C T N, w ∈ Ts) (hK : va_K D vwCl (tyL k) s) (hP : va_P D vwCl ws H) (q0 : Nat) {fs : List Value} (he : ws[q0]? = some (a, .inr (ci, fs))) (hc : vwCl[ci]? = some (C, T, N)) (kf : Nat) (hk : kf < N) (hlink : Cond.fieldLink own index ref (T kf).2.1 (T kf).2.2.1 ∈ Ts) (href : ref = (T kf).1) {v : Value} (hv : fs[kf]? = some v) (hdg : decode cc pc = .ok (.getfield index, 3))
    (kk : W p l e R s m args below meth c H locs cells slots Q (F0 m (pc + 3) ls (v :: rest))) : W p l e R s m args below meth c H locs cells slots Q (F0 m pc ls (.ref a :: rest)) :=
  va_get hz.1 hz.2.1 hz.2.2.2.2 hin hz.2.2.2.1 hK hP q0 he hc kf hk (hz.2.2.2.2 _ hlink) (fun _ h => by rw [href]; exact h) hv hdg kk
/-- a place of an int array of the world -/
theorem rald {ws : va_W} {a : Nat} (hz : CallFix p m c cc nL s args Ts own) (hK : va_K D vwCl (tyL k) s) (hP : va_P D vwCl ws H) (q0 t0 : Nat) {cA : ClassId} {n i : Nat} {f : Nat → Int32} (ha : ws[q0]? = some (a, .inl (cA, n, .inl f))) (ht : (tyL k)[t0]? = some (cA, .int)) (hi : i < n) (hn : n < 2 ^ 31) {v : Int32} (hv : f i = v) (hdg : decode cc pc = .ok (.iaload, 1))
    (kk : W p l e R s m args below meth c H locs cells slots Q (F0 m (pc + 1) ls (.int v :: rest))) : W p l e R s m args below meth c H locs cells slots Q (F0 m pc ls (.int (nI i) :: .ref a :: rest)) :=
  va_iald hz.1 hz.2.1 hK hP q0 t0 ha ht (vp_in_nI hi hn) hdg (by rw [nI_clamp (Nat.lt_trans hi hn), hv]; exact kk)
end BASE
