/-! BASE 3: longs, writes -/
theorem bI_1 {z : Bool} (h : z = true) : nI 1 = bI z := by rw [h]; rfl
theorem bI_0 {z : Bool} (h : z = false) : nI 0 = bI z := by rw [h]; rfl
theorem nI_dec {a : Nat} (h : 1 ≤ a) : nI a + Int32.ofInt (-1) = nI (a - 1) := by
  obtain ⟨c, rfl⟩ : ∃ c, a = c + 1 := ⟨a - 1, by omega⟩
  exact pk_m1 c
theorem lg_lt0 {x y : Int64} : lg_cmp x y < 0 ↔ x < y := by
  unfold lg_cmp
  have h1 := fa_lt64 x y
  have h2 := fa_lt64 y x
  have h3 := fa_eq64 x y
  by_cases a : x > y
  · rw [if_pos a]
    have a' : y < x := a
    constructor
    · intro h; exact absurd h (by decide)
    · intro h; rw [h1] at h; rw [h2] at a'; omega
  · rw [if_neg a]
    by_cases b : x = y
    · rw [if_pos b]
      constructor
      · intro h; exact absurd h (by decide)
      · intro h; rw [h1] at h; rw [h3] at b; omega
    · rw [if_neg b]
      have a' : ¬ y < x := a
      constructor
      · intro _; rw [h1]; rw [h2] at a'; rw [h3] at b; omega
      · intro _; decide
theorem lg_gt0 {x y : Int64} : 0 < lg_cmp x y ↔ y < x := by
  unfold lg_cmp
  have h1 := fa_lt64 x y
  have h2 := fa_lt64 y x
  have h3 := fa_eq64 x y
  by_cases a : x > y
  · rw [if_pos a]
    have a' : y < x := a
    exact ⟨fun _ => a', fun _ => by decide⟩
  · rw [if_neg a]
    have a' : ¬ y < x := a
    by_cases b : x = y
    · rw [if_pos b]
      exact ⟨fun h => absurd h (by decide), fun h => absurd h a'⟩
    · rw [if_neg b]
      exact ⟨fun h => absurd h (by decide), fun h => absurd h a'⟩
theorem lg_eq0 {x y : Int64} : lg_cmp x y = 0 ↔ x = y := by
  unfold lg_cmp
  have h2 := fa_lt64 y x
  have h3 := fa_eq64 x y
  by_cases a : x > y
  · rw [if_pos a]
    have a' : y < x := a
    constructor
    · intro h; exact absurd h (by decide)
    · intro h; rw [h3] at h; rw [h2] at a'; omega
  · rw [if_neg a]
    by_cases b : x = y
    · rw [if_pos b]; exact ⟨fun _ => b, fun _ => rfl⟩
    · rw [if_neg b]; exact ⟨fun h => absurd h (by decide), fun h => absurd h b⟩
theorem wIn_L {x : Int32} {lo hi : Nat} (hl : lo < 2147483648) (hh : hi < 2147483648) : wIn x lo hi = (decide (¬ x.toInt64 < lN lo) && decide (¬ lN hi < x.toInt64)) := by
  have h1 : (nI lo ≤ x) ↔ ¬ x.toInt64 < lN lo := by
    rw [fa_lt64, fa_le, Int32.toInt_toInt64, nI_toInt hl, lN_toInt hl]; omega
  have h2 : (x ≤ nI hi) ↔ ¬ lN hi < x.toInt64 := by
    rw [fa_lt64, fa_le, Int32.toInt_toInt64, nI_toInt hh, lN_toInt hh]; omega
  simp only [wIn, h1, h2]
section BASE3
variable {p : Program} {l : Launch} {e : Env} {R : Room} {s : State} {m : MethodId} {args : Array Value} {below : List Frame} {meth : Method} {c : Code} {H : Heap} {locs : List Loc} {Q : State → Prop} {cells slots : Nat}
variable {cc : ByteArray} {nL pc index : Nat} {ls : Array Slot} {rest : List Value} {Ts : List Cond} {own : String} {D : va_G} {k : Nat → ClassId} {A : Nat → Prop} {ws : va_W} {a : Nat} {H0 : Heap}
/-- a field that is written -/
theorem rput (hz : CallFix p m c cc nL s args Ts own) {ref C : String} {T : u_T} {N ci : Nat} (hin : ∀ w ∈ u_ws C T N, w ∈ Ts) (ty0 : Nat → FieldType) (hty : ∀ k, k < N → parseFieldDescriptor (T k).2.2.1 = some (ty0 k)) (hnm : ∀ a, a < N → ∀ b, b < N → a ≠ b → (T a).2.1 ≠ (T b).2.1) (hK : va_K D vwCl (tyL k) s) (hP : va_P D vwCl ws H) (hD : va_D A ws) (hS : va_S A H0 H locs) (q0 : Nat) {fs : List Value} (he : ws[q0]? = some (a, .inr (ci, fs))) (hc : vwCl[ci]? = some (C, T, N)) (kf : Nat) (hk : kf < N) (hlink : Cond.fieldLink own index ref (T kf).2.1 (T kf).2.2.1 ∈ Ts) (href : ref = (T kf).1) (hfin : (T kf).2.2.2 = false) {ty : FieldType} {v : Value} (hd : parseFieldDescriptor (T kf).2.2.1 = some ty) (hn : narrow ty v = v) (hfit : fits ty v = true) (hl : kf < fs.length) (hdg : decode cc pc = .ok (.putfield index, 3))
    (kk : ∀ (H1 : Heap) (locs1 : List Loc), va_P D vwCl (ws.set q0 (a, .inr (ci, fs.set kf v))) H1 → va_S A H0 H1 locs1 → W p l e R s m args below meth c H1 locs1 cells slots Q (F0 m (pc + 3) ls rest)) : W p l e R s m args below meth c H locs cells slots Q (F0 m pc ls (v :: .ref a :: rest)) :=
  va_put hz.1 hz.2.1 hz.2.2.2.2 hin ty0 hty hnm hz.2.2.2.1 hK hP hD hS q0 he hc kf hk (hz.2.2.2.2 _ hlink) (fun _ h => by rw [href]; exact h) hfin hd hn hfit hl hdg (fun H1 locs1 h1 _ h3 => kk H1 locs1 h1 h3)
/-- a place of an int array that is written -/
theorem rast (hz : CallFix p m c cc nL s args Ts own) (hK : va_K D vwCl (tyL k) s) (hP : va_P D vwCl ws H) (hD : va_D A ws) (hS : va_S A H0 H locs) (q0 t0 : Nat) {cA : ClassId} {n i v : Nat} {f : Nat → Nat} (ha : ws[q0]? = some (a, .inl (cA, n, .inl (fun j => nI (f j))))) (ht : (tyL k)[t0]? = some (cA, .int)) (hi : i < n) (hn : n < 2 ^ 31) (hdg : decode cc pc = .ok (.iastore, 1))
    (kk : ∀ (H1 : Heap) (locs1 : List Loc), va_P D vwCl (ws.set q0 (a, .inl (cA, n, .inl (fun j => nI (nset f i v j))))) H1 → va_S A H0 H1 locs1 → W p l e R s m args below meth c H1 locs1 cells slots Q (F0 m (pc + 1) ls rest)) : W p l e R s m args below meth c H locs cells slots Q (F0 m pc ls (.int (nI v) :: .int (nI i) :: .ref a :: rest)) :=
  va_iast hz.1 hz.2.1 hK hP hD hS q0 t0 ha ht (vp_in_nI hi hn) hdg (fun H1 locs1 h1 _ h3 => by rw [nI_clamp (Nat.lt_trans hi hn), nset_upd] at h1; exact kk H1 locs1 h1 h3)
/-- a place of a boolean array -/
theorem rzald (hz : CallFix p m c cc nL s args Ts own) (hK : va_K D vwCl (tyL k) s) (hP : va_P D vwCl ws H) (q0 t0 : Nat) {cA : ClassId} {n i : Nat} {f : Nat → Int32} (ha : ws[q0]? = some (a, .inl (cA, n, .inl f))) (ht : (tyL k)[t0]? = some (cA, .boolean)) (hi : i < n) (hn : n < 2 ^ 31) {v : Int32} (hv : f i = v) (hdg : decode cc pc = .ok (.baload, 1))
    (kk : W p l e R s m args below meth c H locs cells slots Q (F0 m (pc + 1) ls (.int v :: rest))) : W p l e R s m args below meth c H locs cells slots Q (F0 m pc ls (.int (nI i) :: .ref a :: rest)) :=
  va_zald hz.1 hz.2.1 hK hP q0 t0 ha ht (vp_in_nI hi hn) hdg (by rw [nI_clamp (Nat.lt_trans hi hn), hv]; exact kk)
theorem rzast (hz : CallFix p m c cc nL s args Ts own) (hK : va_K D vwCl (tyL k) s) (hP : va_P D vwCl ws H) (hD : va_D A ws) (hS : va_S A H0 H locs) (q0 t0 : Nat) {cA : ClassId} {n i v : Nat} {f : Nat → Nat} (ha : ws[q0]? = some (a, .inl (cA, n, .inl (fun j => nI (f j))))) (ht : (tyL k)[t0]? = some (cA, .boolean)) (hi : i < n) (hn : n < 2 ^ 31) (hv : vp_nar .boolean (nI v) = nI v) (hdg : decode cc pc = .ok (.bastore, 1))
    (kk : ∀ (H1 : Heap) (locs1 : List Loc), va_P D vwCl (ws.set q0 (a, .inl (cA, n, .inl (fun j => nI (nset f i v j))))) H1 → va_S A H0 H1 locs1 → W p l e R s m args below meth c H1 locs1 cells slots Q (F0 m (pc + 1) ls rest)) : W p l e R s m args below meth c H locs cells slots Q (F0 m pc ls (.int (nI v) :: .int (nI i) :: .ref a :: rest)) :=
  va_zast hz.1 hz.2.1 hK hP hD hS q0 t0 ha ht (vp_in_nI hi hn) hdg (fun H1 locs1 h1 _ h3 => by rw [nI_clamp (Nat.lt_trans hi hn), hv, nset_upd] at h1; exact kk H1 locs1 h1 h3)
end BASE3
