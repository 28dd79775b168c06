/-! BASE 13: constructors -/
theorem aoa_spec {args : Array Value} {first s : State} {o : Option Outcome} {idx : List Nat} {t : FieldType} (h : (Cond.arrayOver (.array t)).holds args first o s idx = true) :
    ∃ comp c k, s.vm.findClass (FieldType.array t).toString = some comp ∧ (s.vm.classes.findIdx? fun (x : Class) => match x.kind with | .array component _ => component == comp | _ => false) = some c ∧ s.vm.classes[c]? = some k ∧ k.kind = .array comp (.array t) ∧ s.vm.findClass ("[" ++ (FieldType.array t).toString) = some c := by
  simp only [Cond.holds, Cond.value, beq_iff_eq] at h
  cases hc : s.vm.findClass (FieldType.array t).toString with
  | none => simp [hc] at h
  | some comp =>
    simp only [hc, Option.bind_some, Option.bind_eq_some_iff, Option.map_eq_some_iff] at h
    obtain ⟨c, hi, k, hk, hb⟩ := h
    obtain ⟨hlt, hp, -⟩ := Array.findIdx?_eq_some_iff_getElem.mp hi
    have hkk : s.vm.classes[c] = k := (Array.getElem?_eq_some_iff.mp hk).2
    rw [hkk] at hp
    cases hkind : k.kind with
    | array component ty =>
      rw [hkind] at hb hp
      simp at hb hp
      exact ⟨comp, c, k, rfl, hi, hk, by rw [hkind, hp, hb.1], hb.2⟩
    | _ => rw [hkind] at hb; simp at hb
theorem va_AOA.moved {t : FieldType} {u U : State} (hvm : u.vm.Alike U.vm) (h : va_AOA t u) : va_AOA t U := by
  obtain ⟨comp, c, k, h1, h2, h3, h4, h5⟩ := aoa_spec h
  obtain ⟨k', hk', he⟩ := hvm.2.2 _ _ h3
  have hi : (U.vm.classes.findIdx? fun (x : Class) => match x.kind with | .array component _ => component == comp | _ => false) = some c := by
    have e1 := va_idx_bare U.vm comp
    have e2 := va_idx_bare u.vm comp
    have e3 : U.vm.bare = u.vm.bare := by first | exact hvm.bare_eq | exact hvm.bare_eq.symm
    rw [e3] at e1
    exact e1.symm.trans (e2.trans h2)
  have hkind : k'.kind = .array comp (.array t) := by rw [he]; exact h4
  have f1 : U.vm.findClass (FieldType.array t).toString = some comp := by rw [hvm.findClass]; exact h1
  have f2 : U.vm.findClass ("[" ++ (FieldType.array t).toString) = some c := by rw [hvm.findClass]; exact h5
  unfold va_AOA Cond.before Cond.holds
  simp only [Cond.value]
  rw [f1, Option.bind_some]
  refine (congrArg (fun o : Option Nat => (o.bind (fun c => (U.vm.classes[c]?).map fun (k : Class) => match k.kind with | .array _ ty => decide (ty = FieldType.array t) && decide (U.vm.findClass ("[" ++ (FieldType.array t).toString) = some c) | _ => false) == some true)) hi).trans ?_
  simp [hk', hkind, f2]
/-- what a constructor takes as given beside its cell -/
def NL (U : State) : Prop := (∀ q ∈ nestM, va_Nw (.methodLinkNest q.1 q.2.1 q.2.2 "BorderHarp") U) ∧ va_AO "BorderHarp$Border" U ∧ va_AOA .int U
theorem NL.warm {s U : State} (hW : s.WarmedH U.vm) (h : NL s) : NL U := ⟨fun q hq => va_Nw.warmM hW (h.1 q hq), va_AO.moved hW.alike h.2.1, va_AOA.moved hW.alike h.2.2⟩
theorem NL.call {U : State} {g : JFrame} {mk : MethodId} {a : Array Value} (h : NL U) : NL (U.calling g mk a) := ⟨fun q hq => va_Nw.same rfl (u := U) rfl (h.1 q hq), va_AO.moved (u := U) (Vm.Alike.refl U.vm) h.2.1, va_AOA.moved (u := U) (Vm.Alike.refl U.vm) h.2.2⟩
def cH (sz : Nat) (D : va_G) (k : Nat → ClassId) (ws : va_W) (U : State) : Prop := U.heap.size = sz ∧ va_P D vwCl ws U.heap ∧ va_K D vwCl (tyL k) U ∧ va_D (fun _ => True) ws ∧ NL U
theorem cH.blind {sz : Nat} {D : va_G} {k : Nat → ClassId} {ws : va_W} {av : List Value} : FrameBlind (va_Pc av (cH sz D k ws)) := by
  intro a U g mk q
  obtain ⟨q0, q1, qP, qK, qD, qN⟩ := q
  exact ⟨q0, q1, qP, va_K.moved (u := U) (U := U.calling g mk a) (Vm.Alike.refl U.vm) qK, qD, qN.call⟩
theorem arrV_ext {c : ClassId} {n : Nat} {f g : Nat → Value} (h : ∀ j, j < n → f j = g j) : arrV c n f = arrV c n g := by
  unfold arrV
  congr 1
  apply congrArg
  funext j
  exact h j.val j.isLt
theorem va_P.ext {D : va_G} {cl : List vw_C} {ws : va_W} {H : Heap} {q0 a n : Nat} {c : ClassId} {f g : Nat → Option Nat} (hP : va_P D cl ws H) (h : ws[q0]? = some (a, .inl (c, n, .inr (.inr (.inr (.inr f)))))) (e : ∀ j, j < n → f j = g j) : va_P D cl (ws.set q0 (a, .inl (c, n, .inr (.inr (.inr (.inr g)))))) H := by
  intro k q hk
  by_cases hq : q0 = k
  · subst hq
    rw [List.getElem?_set, if_pos rfl] at hk
    split at hk
    · cases hk
      have h0 := hP q0 _ h
      show H[a]? = some (vp_cell c (n, .inr (.inr (.inr (.inr g)))))
      rw [vp_cell_q, ← arrV_ext (f := fun j => va_rf (f j)) (fun j hj => by rw [e j hj]), ← vp_cell_q]
      exact h0
    · cases hk
  · rw [List.getElem?_set, if_neg hq] at hk
    exact hP k q hk
section BASE13
variable {p : Program} {l : Launch} {e : Env} {R : Room} {s : State} {m : MethodId} {args : Array Value} {below : List Frame} {meth : Method} {c : Code} {H H0 : Heap} {locs : List Loc} {Q : State → Prop} {cells slots : Nat}
variable {cc bytes : ByteArray} {nL maxL pc index n mc ms a b : Nat} {ls : Array Slot} {rest st0 : List Value} {Ts wsC wsC' : List Cond} {own : String} {y : MethodName} {rm : Room} {ret : Option FieldType} {D : va_G} {k : Nat → ClassId} {A : Nat → Prop} {ws wr : va_W} {S : Type}
theorem my_entryI {av : List Value} {B : State → Prop} {Qc : Array Value → State → Outcome → State → Prop} {free : Addr → Prop} (hy : plainName y.cls = true) (hw : wsC = Cond.code y cc maxL ret :: wsC') (hn : (lg_sl av).length ≤ maxL)
    (body : ∀ (p : Program) (e : Env) (s : State) (m : MethodId) (below : List Frame) (meth : Method) (c : Code), CallFix p m c cc maxL s av.toArray wsC y.cls → meth.sig.returnType = ret → meth.locks = false → meth.name = y.name → B s → ∀ ls : Array Slot, lv_has ls maxL (lv_args 0 av) → W p l e rm s m av.toArray below meth c s.heap [] 0 0 (MQ below Qc av.toArray s mc ms free) (F0 m 0 ls [])) :
    Met l y wsC rm (va_Pc av B) Qc mc ms free := by
  refine Met.ofW (cc := cc) (maxL := maxL) (ret := ret) hy hw ?_
  intro p e s m args below meth c s₁ Bd hml hv
  obtain ⟨rfl, hB⟩ := hv
  have hts := atoms_spec (ws := wsC) Bd.pre
  have hown : s.vm.findClass y.cls = some m.cls := findClass_of_methodNamed Bd.named
  have hl := lv_entry av (n := maxL) hn
  rw [lg_entry_eq]
  generalize (lg_sl av ++ List.replicate (maxL - (lg_sl av).length) Slot.unset).toArray = ls at hl ⊢
  exact body p e s m below meth c ⟨Bd.exec, Bd.bytes, hml, hown, hts⟩ Bd.returns Bd.notSynchronized (name_of_methodNamed Bd.named Bd.method).1 hB ls hl
theorem rnewa (hz : CallFix p m c cc nL s args Ts own) {atype : ArrayType} {ty : FieldType} (hty : newarray.typeOf atype = ty) (harr : Cond.arrayClass ty ∈ Ts) (hK : va_K D vwCl (tyL k) s) (hP : va_P D vwCl ws H) (hD : va_D A ws) (hS : va_S A H0 H locs) (hA : ∀ q, H0.size ≤ q → A q) (t0 : Nat) {cA : ClassId} (ht : (tyL k)[t0]? = some (cA, ty))
    (hra : ∀ x, va_RA s x ty → s.vm.findClass ("[" ++ ty.toString) = some x) (hdv : defaultValue ty = .int 0) {N : Nat} (hN : N < 1000) (hb8 : N * componentBytes ty ≤ 536870912) (hcells : cells + 1 ≤ R.cells) (hslots : slots + N ≤ R.slots) (hdg : decode cc pc = .ok (.newarray atype, 2))
    (kk : ∀ (q : Nat) (H1 : Heap), va_P D vwCl (ws ++ [(q, .inl (cA, N, .inl (fun _ => nI 0)))]) H1 → va_D A (ws ++ [(q, .inl (cA, N, .inl (fun _ => nI 0)))]) → va_S A H0 H1 locs → W p l e R s m args below meth c H1 locs (cells + 1) (slots + N) Q (F0 m (pc + 2) ls (.ref q :: rest))) : W p l e R s m args below meth c H locs cells slots Q (F0 m pc ls (.int (nI N) :: rest)) := by
  subst hty
  refine va_newa hz.1 hz.2.1 (hz.2.2.2.2 _ harr) rfl hK hP hD hS hA (a0 := (N, .inl (fun _ => nI 0))) (fun c9 => by rw [vp_cell_i, hdv]; rfl) (nI_pos (by omega)) (nI_clamp (by omega)) hb8 hcells hslots hdg (fun q c9 H1 hK1 hP1 hD1 hS1 => ?_)
  have e1 := hra _ (hK.2 t0 _ ht).2
  have e2 := hra _ (hK1.2 5 (c9, _) rfl).2
  have e3 : c9 = cA := Option.some.inj (e2.symm.trans e1)
  subst e3
  exact kk q H1 hP1 hD1 hS1
theorem rnewq (hz : CallFix p m c cc nL s args Ts own) (hcl : Cond.classLink own index "BorderHarp$Border" ∈ Ts) (hn : NL s) (hK : va_K D vwCl (tyL k) s) (hP : va_P D vwCl ws H) (hD : va_D A ws) (hS : va_S A H0 H locs) (hA : ∀ q, H0.size ≤ q → A q)
    {N : Nat} (hN : N < 1000) (hcells : cells + 1 ≤ R.cells) (hslots : slots + N ≤ R.slots) (hdg : decode cc pc = .ok (.anewarray index, 3))
    (kk : ∀ (q : Nat) (H1 : Heap), va_P D vwCl (ws ++ [(q, .inl (k 3, N, .inr (.inr (.inr (.inr (fun _ => none))))))]) H1 → va_D A (ws ++ [(q, .inl (k 3, N, .inr (.inr (.inr (.inr (fun _ => none))))))]) → va_S A H0 H1 locs → W p l e R s m args below meth c H1 locs (cells + 1) (slots + N) Q (F0 m (pc + 3) ls (.ref q :: rest))) : W p l e R s m args below meth c H locs cells slots Q (F0 m pc ls (.int (nI N) :: rest)) := by
  refine va_newq hz.1 hz.2.1 hz.2.2.2.1 (hz.2.2.2.2 _ hcl) hn.2.1 hK hP hD hS hA (nI_pos (by omega)) (nI_clamp (by omega)) (by omega) hcells hslots hdg (fun q c9 H1 hK1 hP1 hD1 hS1 => ?_)
  obtain ⟨_, _, _, _, _, e1⟩ := (hK.2 3 (k 3, .object "BorderHarp$Border") rfl).2
  obtain ⟨_, _, _, _, _, e2⟩ := (hK1.2 5 (c9, .object "BorderHarp$Border") rfl).2
  have e3 : c9 = k 3 := Option.some.inj (e2.symm.trans e1)
  subst e3
  exact kk q H1 hP1 hD1 hS1
theorem rmna (hz : CallFix p m c cc nL s args Ts own) (hcl : Cond.classLink own index "[[I" ∈ Ts) (harr : Cond.arrayClass .int ∈ Ts) (hn : NL s) (hK : va_K D vwCl (tyL k) s) (hP : va_P D vwCl ws H) (hD : va_D A ws) (hS : va_S A H0 H locs) (hA : ∀ q, H0.size ≤ q → A q)
    (hcells : cells + (1 + 9) ≤ R.cells) (hslots : slots + (9 + 9 * 8) ≤ R.slots) (hdg : decode cc pc = .ok (.multianewarray index 2, 4))
    (kk : ∀ (q : Nat) (r : Nat → Nat) (H1 : Heap), va_P D vwCl ((ws ++ [(q, .inl (k 4, 9, .inr (.inr (.inr (.inr (fun i => if i < 9 then some (r i) else none))))))]) ++ (List.range 9).map (fun i => (r i, .inl (k 0, 8, .inl (fun _ => nI 0))))) H1 → va_D A ((ws ++ [(q, .inl (k 4, 9, .inr (.inr (.inr (.inr (fun i => if i < 9 then some (r i) else none))))))]) ++ (List.range 9).map (fun i => (r i, .inl (k 0, 8, .inl (fun _ => nI 0))))) → va_S A H0 H1 locs →
      W p l e R s m args below meth c H1 locs (cells + 1 + 9) (slots + 9 + 9 * 8) Q (F0 m (pc + 4) ls (.ref q :: rest))) : W p l e R s m args below meth c H locs cells slots Q (F0 m pc ls (.int (nI 8) :: .int (nI 9) :: rest)) := by
  have e0 : ws = ws ++ va_pl [] (fun _ => .inl (k 0, 8, .inl (fun _ => nI 0))) := (List.append_nil ws).symm
  rw [e0] at hP hD
  have hcy : s.vm.findClass (FieldType.array .int).toString = some (k 0) := (hK.2 0 (k 0, .int) rfl).2
  refine va_mna (z := (8, .inl (fun _ => nI 0))) hz.1 hz.2.1 hz.2.2.2.1 (hz.2.2.2.2 _ hcl) hn.2.2 (hz.2.2.2.2 _ harr) hcy hK hP hD hS hA (nI_pos (by decide)) (nI_pos (by decide)) (nI_clamp (by decide)) (nI_clamp (by decide)) (by decide) (by decide) (by decide) rfl rfl hcells hslots (fun c9 => ?_) hdg (fun q r c9 H1 _ _ hK1 hP1 hD1 hS1 => ?_)
  · show ({ cls := c9, slots := Array.replicate 8 (Value.int 0), vm := .none } : Cell) = _
    rw [arrV_new, vp_cell_i]
    rfl
  · have e1 := (hK.2 4 (k 4, .array .int) rfl).2
    have e2 := (hK1.2 5 (c9, .array .int) rfl).2
    have e3 : c9 = k 4 := Option.some.inj (e2.symm.trans e1)
    subst e3
    have e4 : va_pl ([] ++ (List.range 9).map r) (vr_up (fun _ => .inl (k 0, 8, .inl (fun _ => nI 0))) ((List.range 9).map r) (.inl (k 0, 8, .inl (fun _ => nI 0)))) = (List.range 9).map (fun i => ((r i, .inl (k 0, 8, .inl (fun _ => nI 0))) : Nat × va_E)) := by
      unfold va_pl
      rw [List.nil_append, List.map_map]
      apply List.map_congr_left
      intro i hi
      show (r i, vr_up _ _ _ (r i)) = _
      rw [vr_up_in (List.mem_map.mpr ⟨i, hi, rfl⟩)]
    rw [e4] at hP1 hD1
    exact kk q r H1 hP1 hD1 hS1
theorem rputF (hz : CallFix p m c cc nL s args Ts own) {ref C : String} {T : u_T} {N ci : Nat} (hin : ∀ w ∈ u_ws C T N, w ∈ Ts) (ty0 : Nat → FieldType) (hty : ∀ k, k < N → parseFieldDescriptor (T k).2.2.1 = some (ty0 k)) (hnm : ∀ a, a < N → ∀ b, b < N → a ≠ b → (T a).2.1 ≠ (T b).2.1) (hK : va_K D vwCl (tyL k) s) (hP : va_P D vwCl ws H) (hD : va_D A ws) (hS : va_S A H0 H locs) (q0 : Nat) {fs : List Value} (he : ws[q0]? = some (a, .inr (ci, fs))) (hc : vwCl[ci]? = some (C, T, N)) (kf : Nat) (hk : kf < N) (hlink : Cond.fieldLink own index ref (T kf).2.1 (T kf).2.2.1 ∈ Ts) (href : ref = (T kf).1) (hfin : (T kf).2.2.2 = true) (hin2 : meth.name = "<init>") (hdecl : (T kf).1 = own) {ty : FieldType} {v : Value} (hd : parseFieldDescriptor (T kf).2.2.1 = some ty) (hn : narrow ty v = v) (hfit : fits ty v = true) (hl : kf < fs.length) (hdg : decode cc pc = .ok (.putfield index, 3))
    (kk : ∀ (H1 : Heap) (locs1 : List Loc), va_P D vwCl (ws.set q0 (a, .inr (ci, fs.set kf v))) H1 → va_D A (ws.set q0 (a, .inr (ci, fs.set kf v))) → va_S A H0 H1 locs1 → W p l e R s m args below meth c H1 locs1 cells slots Q (F0 m (pc + 3) ls rest)) : W p l e R s m args below meth c H locs cells slots Q (F0 m pc ls (v :: .ref a :: rest)) :=
  va_putF hz.1 hz.2.1 hz.2.2.2.2 hin ty0 hty hnm hz.2.2.2.1 hK hP hD hS q0 he hc kf hk (hz.2.2.2.2 _ hlink) (fun _ h => by rw [href]; exact h) hfin hin2 hdecl hd hn hfit hl hdg kk
/-- a constructor of a nest mate -/
theorem inN {post : S → Prop} {w1 : S → va_W} {e9 : va_E} (hz : CallFix p m c cc nL s args Ts own) (hM : Met l y wsC rm (va_Pc [.ref b] (cH H.size D k [(b, e9)])) (va_Qv post (fun u t => va_P D vwCl (w1 u) t.heap ∧ va_D (va_A [(b, e9)] H.size) (w1 u)) (va_A [(b, e9)] H.size)) mc ms (va_A [(b, e9)] H.size))
    (hG : GoodIn Ts wsC) (hw : wsC = Cond.code y bytes maxL none :: wsC') (hrm : rm.cells = mc ∧ rm.slots = ms) (hn : NL s) (hl : (own, index, y) ∈ nestM) (hini : Cond.initialized y.cls ∈ Ts) (him : Cond.instanceMethod y ∈ Ts) (hy1 : y.name = "<init>") (hd : y.cls ≠ "java/lang/invoke/MethodHandle" ∧ y.cls ≠ "java/lang/invoke/VarHandle" ∧ (parseMethodDescriptor y.desc).map (fun d => d.parameters.length) = some 0) (hR : rm.frames + 1 ≤ R.frames ∧ 8 + (maxL + 11) + rm.locals ≤ R.locals)
    (hK : va_K D vwCl (tyL k) s) (hP : va_P D vwCl ws H) (hD : va_D A ws) (hS : va_S A s.heap H locs) (hA : ∀ q, s.heap.size ≤ q → A q) (hPc : va_P D vwCl [(b, e9)] H) (hDc : va_D A [(b, e9)]) (isC isR : List Nat) (hC : isC.map (fun i => ws[i]?) = [(b, e9)].map some) (hRr : isR.map (fun i => ws[i]?) = wr.map some) (hnd : va_nd isR = true) (hdis : ∀ i ∈ isR, i ∉ isC)
    (hsz : ls.size = nL) (hst : st0 = .ref b :: rest) (hW : (rest.map fun v => v.category).sum ≤ 8) (hdg : decode cc pc = .ok (.invokespecial index, 3)) (hf : cells + mc ≤ R.cells ∧ slots + ms ≤ R.slots)
    (kk : ∀ (u : S) (H1 : Heap) (locs1 : List Loc), post u → va_P D vwCl (wr ++ w1 u) H1 → va_D A (wr ++ w1 u) → va_S A s.heap H1 locs1 → W p l e R s m args below meth c H1 locs1 (cells + mc) (slots + ms) Q (F0 m (pc + 3) ls rest)) : W p l e R s m args below meth c H locs cells slots Q (F0 m pc ls st0) := by
  have hFc := va_free (wc := [(b, e9)]) hD hS hA isC hC
  refine va_callv (va_runIN (As := []) (rest := rest) (g := F0 m pc ls st0) (host := "BorderHarp") hz hM ⟨va_cnB 0 hz.2.2.2.2 hG hw hrm.1 hrm.2 (hn.1 _ hl) (hz.2.2.2.2 _ hini) hd hR, hy1, hz.2.2.2.2 _ him⟩ ⟨cH.blind, fun U hU hWm => ⟨rfl, by rw [hU], by rw [hU]; exact hPc, va_K.moved hWm.alike hK, hDc.any, hn.warm hWm⟩⟩ rfl rfl hsz hst (lv_room hW) hdg hf) hS (fun q _ h => hFc q h) hFc (fun u t H1 locs1 ht hvm hp hB hz1 hk1 hS1 => ?_)
  obtain ⟨hP1, hD1⟩ := hB
  rw [ht] at hP1
  obtain ⟨hP2, hD2⟩ := va_join (wr := wr) (w1 := w1 u) hP hD isC isR hC hRr hnd hdis hk1 hFc hP1 hD1
  exact kk u H1 locs1 hp hP2 hD2 hS1
/-- a constructor, by an ordinary link -/
theorem inL {post : S → Prop} {w1 : S → va_W} {e9 : va_E} (hz : CallFix p m c cc nL s args Ts own) (hM : Met l y wsC rm (va_Pc [.ref b] (cH H.size D k [(b, e9)])) (va_Qv post (fun u t => va_P D vwCl (w1 u) t.heap ∧ va_D (va_A [(b, e9)] H.size) (w1 u)) (va_A [(b, e9)] H.size)) mc ms (va_A [(b, e9)] H.size))
    (hG : GoodIn Ts wsC) (hw : wsC = Cond.code y bytes maxL none :: wsC') (hrm : rm.cells = mc ∧ rm.slots = ms) (hn : NL s) (hl : Cond.methodLink own index y ∈ Ts) (hini : Cond.initialized y.cls ∈ Ts) (him : Cond.instanceMethod y ∈ Ts) (hy1 : y.name = "<init>") (hd : y.cls ≠ "java/lang/invoke/MethodHandle" ∧ y.cls ≠ "java/lang/invoke/VarHandle" ∧ (parseMethodDescriptor y.desc).map (fun d => d.parameters.length) = some 0) (hR : rm.frames + 1 ≤ R.frames ∧ 8 + (maxL + 11) + rm.locals ≤ R.locals)
    (hK : va_K D vwCl (tyL k) s) (hP : va_P D vwCl ws H) (hD : va_D A ws) (hS : va_S A s.heap H locs) (hA : ∀ q, s.heap.size ≤ q → A q) (hPc : va_P D vwCl [(b, e9)] H) (hDc : va_D A [(b, e9)]) (isC isR : List Nat) (hC : isC.map (fun i => ws[i]?) = [(b, e9)].map some) (hRr : isR.map (fun i => ws[i]?) = wr.map some) (hnd : va_nd isR = true) (hdis : ∀ i ∈ isR, i ∉ isC)
    (hsz : ls.size = nL) (hst : st0 = .ref b :: rest) (hW : (rest.map fun v => v.category).sum ≤ 8) (hdg : decode cc pc = .ok (.invokespecial index, 3)) (hf : cells + mc ≤ R.cells ∧ slots + ms ≤ R.slots)
    (kk : ∀ (u : S) (H1 : Heap) (locs1 : List Loc), post u → va_P D vwCl (wr ++ w1 u) H1 → va_D A (wr ++ w1 u) → va_S A s.heap H1 locs1 → W p l e R s m args below meth c H1 locs1 (cells + mc) (slots + ms) Q (F0 m (pc + 3) ls rest)) : W p l e R s m args below meth c H locs cells slots Q (F0 m pc ls st0) := by
  have hFc := va_free (wc := [(b, e9)]) hD hS hA isC hC
  refine va_callv (va_runI (As := []) (rest := rest) (g := F0 m pc ls st0) hz hM (cwI 0 hz.2.2.2.2 hG hw hrm.1 hrm.2 (hz.2.2.2.2 _ hini) (hz.2.2.2.2 _ hl) (hz.2.2.2.2 _ him) hy1 hd hR) ⟨cH.blind, fun U hU hWm => ⟨rfl, by rw [hU], by rw [hU]; exact hPc, va_K.moved hWm.alike hK, hDc.any, hn.warm hWm⟩⟩ rfl rfl hsz hst (lv_room hW) hdg hf) hS (fun q _ h => hFc q h) hFc (fun u t H1 locs1 ht hvm hp hB hz1 hk1 hS1 => ?_)
  obtain ⟨hP1, hD1⟩ := hB
  rw [ht] at hP1
  obtain ⟨hP2, hD2⟩ := va_join (wr := wr) (w1 := w1 u) hP hD isC isR hC hRr hnd hdis hk1 hFc hP1 hD1
  exact kk u H1 locs1 hp hP2 hD2 hS1
theorem in_vret {post : S → Prop} {w1 : S → va_W} {w0 : va_W} (hz : CallFix p m c cc nL s args Ts own) (hr : meth.sig.returnType = none) (hlk : meth.locks = false) (hS : va_S (va_A w0 s.heap.size) s.heap H locs) (u : S) (hp : post u) (hP : va_P D vwCl (w1 u) H) (hD : va_D (va_A w0 s.heap.size) (w1 u)) (hdg : decode cc pc = .ok (.return_, 1)) :
    W p l e R s m args below meth c H locs cells slots (MQ below (va_Qv post (fun u t => va_P D vwCl (w1 u) t.heap ∧ va_D (va_A w0 s.heap.size) (w1 u)) (va_A w0 s.heap.size)) args s cells slots (va_A w0 s.heap.size)) (F0 m pc ls []) :=
  W.vret hz.1 hz.2.1 hr (fun t ht _ => ⟨⟨u, rfl, hp, by rw [ht]; exact hP, hD⟩, hS.F ht⟩) hS.2.2 hdg hlk
end BASE13
