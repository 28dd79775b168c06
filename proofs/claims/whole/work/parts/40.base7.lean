/-! BASE 7: reaches, copies -/
def sReach (M : Nat → Nat) (w s : Nat) : Nat := sSpan (M 0) w (sLoud (M (3 + w)) s)
def sMeet (M : Nat → Nat) (v w : Nat) : Bool := decide (sReach M v 2 &&& sReach M w 2 ≠ 0)
theorem bits_between : ∀ a, a < 11 → ∀ b, b < 11 → ∀ p, p < 11 → a ≤ b → (2 ^ b - 2 ^ a).testBit p = (decide (a ≤ p) && decide (p < b)) := by decide +kernel
theorem sSpan_bit {n w l p : Nat} (hn : n ≤ 9) (hw : w < n - 1) (hl : l ≤ 5) (hp : p < n) : (sSpan n w l).testBit p = decide (sFar p w < l) := by
  unfold sSpan
  rw [bits_between (w + 1 - l) (by omega) (min (n - 1) (w + l) + 1) (by omega) p (by omega) (by omega)]
  unfold sFar
  by_cases h : w < p
  · rw [if_pos h]
    by_cases q : p - w - 1 < l
    · rw [decide_eq_true q, decide_eq_true (show w + 1 - l ≤ p by omega), decide_eq_true (show p < min (n - 1) (w + l) + 1 by omega)]; rfl
    · rw [decide_eq_false q, decide_eq_false (show ¬ p < min (n - 1) (w + l) + 1 by omega), Bool.and_false]
  · rw [if_neg h]
    by_cases q : w - p < l
    · rw [decide_eq_true q, decide_eq_true (show w + 1 - l ≤ p by omega), decide_eq_true (show p < min (n - 1) (w + l) + 1 by omega)]; rfl
    · rw [decide_eq_false q, decide_eq_false (show ¬ w + 1 - l ≤ p by omega)]; rfl
theorem sSpan_lt {n w l : Nat} (hn : n ≤ 9) (hn1 : 1 ≤ n) : sSpan n w l ≤ 512 := by
  unfold sSpan
  have h : 2 ^ (min (n - 1) (w + l) + 1) ≤ 2 ^ 9 := Nat.pow_le_pow_right (by decide) (by omega)
  exact Nat.le_trans (Nat.sub_le _ _) h
theorem sReach_lt {M : Nat → Nat} (hf : Wf M) (w s : Nat) : sReach M w s ≤ 512 := sSpan_lt hf.n9 (by have := hf.n2; omega)
theorem sReach_bit {M : Nat → Nat} (hf : Wf M) {p w s : Nat} (hp : p < M 0) (hw : w < M 0 - 1) (hs : s ≤ 3) : (sReach M w s).testBit p = sHears M p w s := by
  unfold sReach sHears
  exact sSpan_bit hf.n9 hw (by have := sLoud_le (M (3 + w)) s; omega) hp
theorem sAny_yes {f : Nat → Bool} {i : Nat} (h : f i = true) : ∀ n, i < n → sAny f n = true := by
  intro n hn
  induction n with
  | zero => omega
  | succ n ih =>
    by_cases q : i = n
    · subst q; simp [sAny, h]
    · simp [sAny, ih (by omega)]
/-- f, but g's places below n -/
def ccpy (f g : Nat → Nat) (n : Nat) : Nat → Nat := fun j => if j < n then g j else f j
theorem ccpy_is (f g : Nat → Nat) (n : Nat) : va_cpy (fun j => nI (g j)) (fun j => nI (f j)) 0 0 n = fun j => nI (ccpy f g n j) := by
  funext j
  unfold va_cpy ccpy
  by_cases h : j < n
  · rw [if_pos (by omega), if_pos h]; congr 2; omega
  · rw [if_neg (by omega), if_neg h]
theorem sSums_2 (f : Nat → Nat) (h i : Nat) : sSums f h (2 * (i + 1)) = 31 * (31 * sSums f h (2 * i) + f (2 * i)) + f (2 * i + 1) := rfl
theorem sSums_3 (f : Nat → Nat) (h i : Nat) : sSums f h (3 * (i + 1)) = 31 * (31 * (31 * sSums f h (3 * i) + f (3 * i)) + f (3 * i + 1)) + f (3 * i + 2) := rfl
section BASE7
variable {p : Program} {l : Launch} {e : Env} {R : Room} {s : State} {m : MethodId} {args : Array Value} {below : List Frame} {meth : Method} {c : Code} {H : Heap} {locs : List Loc} {Q : State → Prop} {cells slots : Nat}
variable {cc : ByteArray} {nL pc index : Nat} {ls : Array Slot} {rest : List Value} {Ts : List Cond} {own : String} {D : va_G} {k : Nat → ClassId} {A : Nat → Prop} {ws : va_W} {a : Nat} {H0 : Heap}
theorem rcpy (hz : CallFix p m c cc nL s args Ts own) (hsz : ls.size = nL) (hlink : Cond.methodLink own index arraycopyName ∈ Ts) (hnat : Cond.native arraycopyName ∈ Ts) (hstat : Cond.static arraycopyName ∈ Ts) (hini : Cond.initialized "java/lang/System" ∈ Ts)
    (hK : va_K D vwCl (tyL k) s) (hP : va_P D vwCl ws H) (hD : va_D A ws) (hS : va_S A H0 H locs) (q0 q1 : Nat) {a0 n0 n1 nn : Nat} {f g : Nat → Nat} (ha0 : ws[q0]? = some (a0, .inl (k 0, n0, .inl (fun j => nI (g j))))) (ha1 : ws[q1]? = some (a, .inl (k 0, n1, .inl (fun j => nI (f j)))))
    (h4 : nn ≤ n0) (h5 : nn ≤ n1) (hnn : nn < 1000) (hframes : 1 ≤ R.frames) (hlocals : (rest.map fun v => v.category).sum + (nativeFrameWords "java/lang/System" "arraycopy" 5 + 11) ≤ R.locals) (hdg : decode cc pc = .ok (.invokestatic index, 3))
    (kk : ∀ (H1 : Heap) (locs1 : List Loc), va_P D vwCl (ws.set q1 (a, .inl (k 0, n1, .inl (fun j => nI (ccpy f g nn j))))) H1 → va_S A H0 H1 locs1 → W p l e R s m args below meth c H1 locs1 cells slots Q (F0 m (pc + 3) ls rest)) : W p l e R s m args below meth c H locs cells slots Q (F0 m pc ls (.int (nI nn) :: .int (nI 0) :: .ref a :: .int (nI 0) :: .ref a0 :: rest)) := by
  have e0 : (nI 0).toNatClampNeg = 0 := nI_clamp (by decide)
  have en : (nI nn).toNatClampNeg = nn := nI_clamp (by omega)
  refine va_copyi hz.1 hz.2.1 (by rw [hz.2.2.1]; exact hsz.symm) hz.2.2.2.1 (hz.2.2.2.2 _ hlink) (hz.2.2.2.2 _ hnat) (hz.2.2.2.2 _ hstat) (hz.2.2.2.2 _ hini) hK hP hD hS q0 q1 0 0 ha0 ha1 rfl rfl rfl (nI_pos (by decide)) (nI_pos (by decide)) (nI_pos (by omega)) (by rw [e0, en]; omega) (by rw [e0, en]; omega) (fun _ _ => rfl) hframes hlocals hdg (fun H1 locs1 h1 _ h3 => ?_)
  rw [e0, en, ccpy_is] at h1
  exact kk H1 locs1 h1 h3
end BASE7
