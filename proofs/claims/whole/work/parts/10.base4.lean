/-! BASE 4: methods that write: exits and calls -/
section BASE4
variable {p : Program} {l : Launch} {e : Env} {R : Room} {s : State} {m : MethodId} {args : Array Value} {below : List Frame} {meth : Method} {c : Code} {H : Heap} {locs : List Loc} {Q : State → Prop} {cells slots : Nat}
variable {cc bytes : ByteArray} {nL maxL pc index n : Nat} {ls : Array Slot} {rest st0 As : List Value} {Ts wsC wsC' : List Cond} {own : String} {y : MethodName} {rm : Room} {ret : Option FieldType} {Y : (Nat → Prop) → State → Heap → Prop} {D : va_G} {k : Nat → ClassId} {wc : va_W} {b : Nat} {A : Nat → Prop} {S : Type} {ws' : S → va_W}
theorem wr_iret {post : Int32 → S → Prop} (hz : CallFix p m c cc nL s args Ts own) (hr : meth.sig.returnType = some .int) (hlk : meth.locks = false) {v : Int32} (hdg : decode cc pc = .ok (.ireturn, 1)) (hS : va_S A s.heap H locs) (u : S) (hP : va_P D vwCl (ws' u) H) (hp : post v u) :
    W p l e R s m args below meth c H locs cells slots (MQ below (va_Qi post (fun u t => va_P D vwCl (ws' u) t.heap) A) args s cells slots A) (F0 m pc ls [.int v]) :=
  W.iret hz.1 hz.2.1 hr (fun t ht _ => ⟨⟨v, u, rfl, hp, by show va_P D vwCl (ws' u) t.heap; rw [ht]; exact hP⟩, hS.F ht⟩) hS.2.2 hdg hlk
theorem wr_zret {post : Int32 → S → Prop} (hz : CallFix p m c cc nL s args Ts own) (hr : meth.sig.returnType = some .boolean) (hlk : meth.locks = false) {v : Int32} {z : Bool} (hdg : decode cc pc = .ok (.ireturn, 1)) (hS : va_S A s.heap H locs) (hv : v = bI z) (u : S) (hP : va_P D vwCl (ws' u) H) (hp : post (bI z) u) :
    W p l e R s m args below meth c H locs cells slots (MQ below (va_Qi post (fun u t => va_P D vwCl (ws' u) t.heap) A) args s cells slots A) (F0 m pc ls [.int v]) := by
  subst hv
  exact W.zret hz.1 hz.2.1 hr (bI_nar z) (fun t ht _ => ⟨⟨_, u, rfl, hp, by show va_P D vwCl (ws' u) t.heap; rw [ht]; exact hP⟩, hS.F ht⟩) hS.2.2 hdg hlk
theorem wr_lret {post : Int64 → S → Prop} (hz : CallFix p m c cc nL s args Ts own) (hr : meth.sig.returnType = some .long) (hlk : meth.locks = false) {v : Int64} (hdg : decode cc pc = .ok (.lreturn, 1)) (hS : va_S A s.heap H locs) (u : S) (hP : va_P D vwCl (ws' u) H) (hp : post v u) :
    W p l e R s m args below meth c H locs cells slots (MQ below (va_Ql post (fun u t => va_P D vwCl (ws' u) t.heap) A) args s cells slots A) (F0 m pc ls [.long v]) :=
  W.lret hz.1 hz.2.1 hr (fun t ht _ => ⟨⟨v, u, rfl, hp, by show va_P D vwCl (ws' u) t.heap; rw [ht]; exact hP⟩, hS.F ht⟩) hS.2.2 hdg hlk
theorem wr_vret {post : S → Prop} (hz : CallFix p m c cc nL s args Ts own) (hr : meth.sig.returnType = none) (hlk : meth.locks = false) (hdg : decode cc pc = .ok (.return_, 1)) (hS : va_S A s.heap H locs) (u : S) (hP : va_P D vwCl (ws' u) H) (hp : post u) :
    W p l e R s m args below meth c H locs cells slots (MQ below (va_Qv post (fun u t => va_P D vwCl (ws' u) t.heap) A) args s cells slots A) (F0 m pc ls []) :=
  W.vret hz.1 hz.2.1 hr (fun t ht _ => ⟨⟨u, rfl, hp, by show va_P D vwCl (ws' u) t.heap; rw [ht]; exact hP⟩, hS.F ht⟩) hS.2.2 hdg hlk
theorem wrV {post : Int32 → S → Prop} (hz : CallFix p m c cc nL s args Ts own) (hY : okY Y) (hM : Met l y wsC rm (va_Pc (.ref b :: As) (wH Y D k wc)) (va_Qi post (fun u t => va_P D vwCl (ws' u) t.heap) (wA wc)) 0 0 (wA wc)) {C : String} (cw : CallW R s args own C index y bytes maxL ret wsC rm 0 0 n)
    (hK : va_K D vwCl (tyL k) s) (hy : Y A s s.heap) (hP : va_P D vwCl wc H) (hD : va_D A wc) (hS : va_S A s.heap H locs) (q0 ci : Nat) {q : vw_C} {fs : List Value} (hc : vwCl[ci]? = some q) (hC : q.1 = C) (he : wc[q0]? = some (b, .inr (ci, fs)))
    (hn : As.length = n) (hsz : ls.size = nL) (hst : st0 = As.reverse ++ .ref b :: rest) (hW : (rest.map fun v => v.category).sum ≤ 8) (hdg : decode cc pc = .ok (.invokevirtual index, 3)) (hf : cells ≤ R.cells ∧ slots ≤ R.slots)
    (kk : ∀ (r : Int32) (u : S) (H1 : Heap) (locs1 : List Loc), post r u → va_P D vwCl (ws' u) H1 → va_S A s.heap H1 locs1 → (∀ q : Nat, q < H.size → ¬ wA wc q → H1[q]? = H[q]?) → W p l e R s m args below meth c H1 locs1 cells slots Q (F0 m (pc + 3) ls (.int r :: rest))) : W p l e R s m args below meth c H locs cells slots Q (F0 m pc ls st0) := by
  subst hC
  exact va_calli (va_runV (As := As) (rest := rest) (b := b) (g := F0 m pc ls st0) hz hM cw ⟨wH.blind hY, va_recv hK hP hc he, fun U hU hWm => ⟨rfl, by rw [hU]; exact hP, va_K.moved hWm.alike hK, hD.any, wY hY hy hD hS hU hWm⟩⟩ rfl hn hsz hst (lv_room hW) hdg hf) hS (fun q _ h => wA.of hD q h) (wA.of hD)
    (fun r u t H1 locs1 ht _ hp hb _ hk hS1 => kk r u H1 locs1 hp (by rw [← ht]; exact hb) hS1 hk)
theorem wrVv {post : S → Prop} (hz : CallFix p m c cc nL s args Ts own) (hY : okY Y) (hM : Met l y wsC rm (va_Pc (.ref b :: As) (wH Y D k wc)) (va_Qv post (fun u t => va_P D vwCl (ws' u) t.heap) (wA wc)) 0 0 (wA wc)) {C : String} (cw : CallW R s args own C index y bytes maxL ret wsC rm 0 0 n)
    (hK : va_K D vwCl (tyL k) s) (hy : Y A s s.heap) (hP : va_P D vwCl wc H) (hD : va_D A wc) (hS : va_S A s.heap H locs) (q0 ci : Nat) {q : vw_C} {fs : List Value} (hc : vwCl[ci]? = some q) (hC : q.1 = C) (he : wc[q0]? = some (b, .inr (ci, fs)))
    (hn : As.length = n) (hsz : ls.size = nL) (hst : st0 = As.reverse ++ .ref b :: rest) (hW : (rest.map fun v => v.category).sum ≤ 8) (hdg : decode cc pc = .ok (.invokevirtual index, 3)) (hf : cells ≤ R.cells ∧ slots ≤ R.slots)
    (kk : ∀ (u : S) (H1 : Heap) (locs1 : List Loc), post u → va_P D vwCl (ws' u) H1 → va_S A s.heap H1 locs1 → (∀ q : Nat, q < H.size → ¬ wA wc q → H1[q]? = H[q]?) → W p l e R s m args below meth c H1 locs1 cells slots Q (F0 m (pc + 3) ls rest)) : W p l e R s m args below meth c H locs cells slots Q (F0 m pc ls st0) := by
  subst hC
  exact va_callv (va_runV (As := As) (rest := rest) (b := b) (g := F0 m pc ls st0) hz hM cw ⟨wH.blind hY, va_recv hK hP hc he, fun U hU hWm => ⟨rfl, by rw [hU]; exact hP, va_K.moved hWm.alike hK, hD.any, wY hY hy hD hS hU hWm⟩⟩ rfl hn hsz hst (lv_room hW) hdg hf) hS (fun q _ h => wA.of hD q h) (wA.of hD)
    (fun u t H1 locs1 ht _ hp hb _ hk hS1 => kk u H1 locs1 hp (by rw [← ht]; exact hb) hS1 hk)
theorem wrVl {post : Int64 → S → Prop} (hz : CallFix p m c cc nL s args Ts own) (hY : okY Y) (hM : Met l y wsC rm (va_Pc (.ref b :: As) (wH Y D k wc)) (va_Ql post (fun u t => va_P D vwCl (ws' u) t.heap) (wA wc)) 0 0 (wA wc)) {C : String} (cw : CallW R s args own C index y bytes maxL ret wsC rm 0 0 n)
    (hK : va_K D vwCl (tyL k) s) (hy : Y A s s.heap) (hP : va_P D vwCl wc H) (hD : va_D A wc) (hS : va_S A s.heap H locs) (q0 ci : Nat) {q : vw_C} {fs : List Value} (hc : vwCl[ci]? = some q) (hC : q.1 = C) (he : wc[q0]? = some (b, .inr (ci, fs)))
    (hn : As.length = n) (hsz : ls.size = nL) (hst : st0 = As.reverse ++ .ref b :: rest) (hW : (rest.map fun v => v.category).sum ≤ 8) (hdg : decode cc pc = .ok (.invokevirtual index, 3)) (hf : cells ≤ R.cells ∧ slots ≤ R.slots)
    (kk : ∀ (r : Int64) (u : S) (H1 : Heap) (locs1 : List Loc), post r u → va_P D vwCl (ws' u) H1 → va_S A s.heap H1 locs1 → (∀ q : Nat, q < H.size → ¬ wA wc q → H1[q]? = H[q]?) → W p l e R s m args below meth c H1 locs1 cells slots Q (F0 m (pc + 3) ls (.long r :: rest))) : W p l e R s m args below meth c H locs cells slots Q (F0 m pc ls st0) := by
  subst hC
  exact va_calll (va_runV (As := As) (rest := rest) (b := b) (g := F0 m pc ls st0) hz hM cw ⟨wH.blind hY, va_recv hK hP hc he, fun U hU hWm => ⟨rfl, by rw [hU]; exact hP, va_K.moved hWm.alike hK, hD.any, wY hY hy hD hS hU hWm⟩⟩ rfl hn hsz hst (lv_room hW) hdg hf) hS (fun q _ h => wA.of hD q h) (wA.of hD)
    (fun r u t H1 locs1 ht _ hp hb _ hk hS1 => kk r u H1 locs1 hp (by rw [← ht]; exact hb) hS1 hk)
/-- a static method that writes cells of the world -/
theorem wrSv {post : S → Prop} (hz : CallFix p m c cc nL s args Ts own) (hY : okY Y) (hM : Met l y wsC rm (va_Pc As (wH Y D k wc)) (va_Qv post (fun u t => va_P D vwCl (ws' u) t.heap) (wA wc)) 0 0 (wA wc)) (cw : CallB R s args own index y bytes maxL ret wsC rm 0 0 n ∧ (Cond.static y).before args s = true)
    (hK : va_K D vwCl (tyL k) s) (hy : Y A s s.heap) (hP : va_P D vwCl wc H) (hD : va_D A wc) (hS : va_S A s.heap H locs)
    (hn : As.length = n) (hsz : ls.size = nL) (hst : st0 = As.reverse ++ rest) (hW : (rest.map fun v => v.category).sum ≤ 8) (hdg : decode cc pc = .ok (.invokestatic index, 3)) (hf : cells ≤ R.cells ∧ slots ≤ R.slots)
    (kk : ∀ (u : S) (H1 : Heap) (locs1 : List Loc), post u → va_P D vwCl (ws' u) H1 → va_S A s.heap H1 locs1 → (∀ q : Nat, q < H.size → ¬ wA wc q → H1[q]? = H[q]?) → W p l e R s m args below meth c H1 locs1 cells slots Q (F0 m (pc + 3) ls rest)) : W p l e R s m args below meth c H locs cells slots Q (F0 m pc ls st0) :=
  va_callv (va_runS (As := As) (rest := rest) (g := F0 m pc ls st0) hz hM cw ⟨wH.blind hY, fun U hU hWm => ⟨rfl, by rw [hU]; exact hP, va_K.moved hWm.alike hK, hD.any, wY hY hy hD hS hU hWm⟩⟩ rfl hn hsz hst (lv_room hW) hdg hf) hS (fun q _ h => wA.of hD q h) (wA.of hD)
    (fun u t H1 locs1 ht _ hp hb _ hk hS1 => kk u H1 locs1 hp (by rw [← ht]; exact hb) hS1 hk)
/-- a call of a method that only reads and answers a long -/
theorem rdVl {r : Int64} (hz : CallFix p m c cc nL s args Ts own) (hY : okY Y) (hM : Met l y wsC rm (va_Pc (.ref b :: As) (wH Y D k wc)) (k2_QcV (.long r)) 0 0 (fun _ => False)) {C : String} (cw : CallW R s args own C index y bytes maxL ret wsC rm 0 0 n)
    (hK : va_K D vwCl (tyL k) s) (hy : Y A s s.heap) (hP : va_P D vwCl wc H) (hD : va_D A wc) (hS : va_S A s.heap H locs) (q0 ci : Nat) {q : vw_C} {fs : List Value} (hc : vwCl[ci]? = some q) (hC : q.1 = C) (he : wc[q0]? = some (b, .inr (ci, fs)))
    (hn : As.length = n) (hsz : ls.size = nL) (hst : st0 = As.reverse ++ .ref b :: rest) (hW : (rest.map fun v => v.category).sum ≤ 8) (hdg : decode cc pc = .ok (.invokevirtual index, 3)) (hf : cells ≤ R.cells ∧ slots ≤ R.slots)
    (kk : W p l e R s m args below meth c H locs cells slots Q (F0 m (pc + 3) ls (.long r :: rest))) : W p l e R s m args below meth c H locs cells slots Q (F0 m pc ls st0) := by
  subst hC
  have hr : CallRun p l e R s m args below meth c H locs cells slots 0 0 (F0 m pc ls st0) rest (k2_QcV (.long r) (Value.ref b :: As).toArray) (fun _ => False) := W.runV (As := As) (rest := rest) (b := b) (g := F0 m pc ls st0) (H := H) (locs := locs) (cells := cells) (slots := slots) hz hM cw ⟨wH.blind hY, va_recv hK hP hc he, fun U hU hWm => ⟨rfl, by rw [hU]; exact hP, va_K.moved hWm.alike hK, hD.any, wY hY hy hD hS hU hWm⟩⟩ rfl hn hsz hst (lv_room hW) hdg hf
  intro T hT X
  obtain ⟨v, st₀, t, T', L, h0, X', hL, e1, ⟨hv, hh⟩, st⟩ := hr T hT X
  cases hv
  obtain ⟨t2, a1, b1⟩ := kk T' (by rw [e1, hh, h0]) (Stand.forget X' (fun q h => (hL q h).elim))
  exact ⟨t2, st t2 a1, b1⟩
theorem rdSl {r : Int64} (hz : CallFix p m c cc nL s args Ts own) {B : State → Prop} (hM : Met l y wsC rm (va_Pc As B) (k2_QcV (.long r)) 0 0 (fun _ => False)) (hB : B = fun _ => True) (cw : CallB R s args own index y bytes maxL ret wsC rm 0 0 n ∧ (Cond.static y).before args s = true)
    (hn : As.length = n) (hsz : ls.size = nL) (hst : st0 = As.reverse ++ rest) (hW : (rest.map fun v => v.category).sum ≤ 8) (hdg : decode cc pc = .ok (.invokestatic index, 3)) (hf : cells ≤ R.cells ∧ slots ≤ R.slots)
    (kk : W p l e R s m args below meth c H locs cells slots Q (F0 m (pc + 3) ls (.long r :: rest))) : W p l e R s m args below meth c H locs cells slots Q (F0 m pc ls st0) := by
  subst hB
  have hr : CallRun p l e R s m args below meth c H locs cells slots 0 0 (F0 m pc ls st0) rest (k2_QcV (.long r) As.toArray) (fun _ => False) := W.runS (As := As) (rest := rest) (g := F0 m pc ls st0) (H := H) (locs := locs) (cells := cells) (slots := slots) hz hM cw ⟨fun a U g mk q => q, fun U hU hWm => ⟨rfl, trivial⟩⟩ rfl hn hsz hst (lv_room hW) hdg hf
  intro T hT X
  obtain ⟨v, st₀, t, T', L, h0, X', hL, e1, ⟨hv, hh⟩, st⟩ := hr T hT X
  cases hv
  obtain ⟨t2, a1, b1⟩ := kk T' (by rw [e1, hh, h0]) (Stand.forget X' (fun q h => (hL q h).elim))
  exact ⟨t2, st t2 a1, b1⟩
end BASE4
theorem nset_same (f : Nat → Nat) (i v : Nat) : nset f i v i = v := if_pos rfl
theorem nset_ne (f : Nat → Nat) {i j : Nat} (v : Nat) (h : j ≠ i) : nset f i v j = f j := if_neg h
theorem nset_back (f : Nat → Nat) (i v : Nat) : nset (nset f i v) i (f i) = f := by
  funext j
  unfold nset
  split
  · next h => rw [h]
  · rfl
theorem nset_twice (f : Nat → Nat) (i v w : Nat) : nset (nset f i v) i w = nset f i w := by
  funext j
  unfold nset
  split <;> rfl
/-- zeros below n, then f -/
def zfill (f : Nat → Nat) (n : Nat) : Nat → Nat := fun j => if j < n then 0 else f j
theorem zfill_0 (f : Nat → Nat) : zfill f 0 = f := funext fun j => if_neg (Nat.not_lt_zero j)
theorem zfill_s (f : Nat → Nat) (n : Nat) : nset (zfill f n) n 0 = zfill f (n + 1) := by
  funext j
  unfold nset zfill
  by_cases h : j = n
  · subst h; rw [if_pos rfl, if_pos (Nat.lt_succ_self j)]
  · rw [if_neg h]
    by_cases h2 : j < n
    · rw [if_pos h2, if_pos (Nat.lt_succ_of_lt h2)]
    · rw [if_neg h2, if_neg (by omega)]
/-- g's places from a on below n, then f -/
def cfill (f g : Nat → Nat) (a c n : Nat) : Nat → Nat := fun j => if a ≤ j ∧ j < a + n then g (j - a + c) else f j
theorem cfill_0 (f g : Nat → Nat) (a c : Nat) : cfill f g a c 0 = f := funext fun j => if_neg (by omega)
theorem cfill_s (f g : Nat → Nat) (a c n : Nat) : nset (cfill f g a c n) (a + n) (g (c + n)) = cfill f g a c (n + 1) := by
  funext j
  unfold nset cfill
  by_cases h : j = a + n
  · subst h; rw [if_pos rfl, if_pos (by omega)]; congr 1; omega
  · rw [if_neg h]
    by_cases h2 : a ≤ j ∧ j < a + n
    · rw [if_pos h2, if_pos (by omega)]
    · rw [if_neg h2, if_neg (by omega)]
theorem wIn_ok {a lo hi : Nat} (h1 : lo ≤ a) (h2 : a ≤ hi) (hh : hi < 2147483648) : wIn (nI a) lo hi = true := by
  rw [wIn_n (by omega) (by omega) hh]; simp [h1, h2]
