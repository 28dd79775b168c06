/-! BASE 15: the class's whole world; rows of references -/
section BASE15
variable {p : Program} {l : Launch} {e : Env} {R : Room} {s : State} {m : MethodId} {args : Array Value} {below : List Frame} {meth : Method} {c : Code} {H H0 : Heap} {locs : List Loc} {Q : State → Prop} {cells slots : Nat}
variable {cc : ByteArray} {nL pc a : Nat} {ls : Array Slot} {rest : List Value} {Ts : List Cond} {own : String} {D : va_G} {k : Nat → ClassId} {A : Nat → Prop} {ws : va_W}
theorem rastq (hz : CallFix p m c cc nL s args Ts own) (hK : va_K D vwCl (tyL k) s) (hP : va_P D vwCl ws H) (hD : va_D A ws) (hS : va_S A H0 H locs) (q0 qk : Nat) {n v i : Nat} {vs : List Value} {f : Nat → Option Nat} (ha : ws[q0]? = some (a, .inl (k 3, n, .inr (.inr (.inr (.inr f)))))) (hv : ws[qk]? = some (v, .inr (0, vs))) (hi : i < n) (hn : n < 1000) (hdg : decode cc pc = .ok (.aastore, 1))
    (kk : ∀ (H1 : Heap) (locs1 : List Loc), va_P D vwCl (ws.set q0 (a, .inl (k 3, n, .inr (.inr (.inr (.inr (va_up f i (some v)))))))) H1 → va_D A (ws.set q0 (a, .inl (k 3, n, .inr (.inr (.inr (.inr (va_up f i (some v)))))))) → va_S A H0 H1 locs1 → W p l e R s m args below meth c H1 locs1 cells slots Q (F0 m (pc + 1) ls rest)) : W p l e R s m args below meth c H locs cells slots Q (F0 m pc ls (.ref v :: .int (nI i) :: .ref a :: rest)) := by
  refine va_astq hz.1 hz.2.1 hK hP hD hS q0 3 qk 0 (r := (RX0, TX0, 12)) ha rfl hv rfl (vp_in_nI hi (by omega)) hdg (fun H1 locs1 h1 h2 h3 => ?_)
  rw [nI_clamp (by omega)] at h1 h2
  exact kk H1 locs1 h1 h2 h3
end BASE15
def cw (a : Nat → Nat) (k : Nat → ClassId) (C F : Nat → Nat) (E : Nat → Nat → Nat) (Fd : Nat → Nat) (Ed : Nat → Nat → Nat) (Fp : Nat → Nat) (Ep : Nat → Nat → Nat) (Fq : Nat → Nat) (Eq : Nat → Nat → Nat) (K X T : Nat → Nat) (Z : Nat → Int32) (S Rr Y Nt Sl Mt : Nat → Nat) (Ch : Nat → Nat → Nat) (Q : Nat → Nat) : va_W :=
  ho a C ++ (bw a 1 k F E ++ (bw a 9 k Fd Ed ++ (iw a k ++ (bw a 18 k Fp Ep ++ (bw a 26 k Fq Eq ++ (kw a k K ++ (tw a k X T ++ (ww a k Z S Rr ++ (tu a k Y Nt Sl Mt Ch ++ qw a Q)))))))))
def z1 : Nat → Nat := fun _ => 0
def z2 : Nat → Nat → Nat := fun _ _ => 0
def f6 : Nat → Nat := nset z1 0 6
def q1 : Nat → Nat := nset z1 1 1
