/-! LAW BASE: what holds between the two, the rows of the law -/
def lA (s : State) : Nat → Prop := fun q => s.heap.size ≤ q
def LB (M F : Nat → Nat) (E : Nat → Nat → Nat) : Prop := Wf M ∧ Rb M F E
def LC (C R : Nat → Nat) : Prop := C 0 = R 0 ∧ C 1 = R 1 ∧ C 2 = R 2
theorem LC.s0 {C R : Nat → Nat} (h : LC C R) : LC (nset C 0 (C 0 + 1)) (sRef R 0) := ⟨by show C 0 + 1 = R 0 + 1; rw [h.1], h.2.1, h.2.2⟩
theorem LC.s1 {C R : Nat → Nat} (h : LC C R) : LC (nset C 1 (C 1 + 1)) (sRef R 1) := ⟨h.1, by show C 1 + 1 = R 1 + 1; rw [h.2.1], h.2.2⟩
theorem LC.s2 {C R : Nat → Nat} (h : LC C R) : LC (nset C 2 (C 2 + 1)) (sRef R 2) := ⟨h.1, h.2.1, by show C 2 + 1 = R 2 + 1; rw [h.2.2]⟩
theorem LC.at {C R : Nat → Nat} (h : LC C R) {w : Nat} (hw : w ≤ 2) : C w = R w := by
  rcases (show w = 0 ∨ w = 1 ∨ w = 2 by omega) with q | q | q <;> subst q
  · exact h.1
  · exact h.2.1
  · exact h.2.2
def LT (X T I R : Nat → Nat) : Prop := X 0 = I 0 ∧ I 0 ≤ 200 ∧ T = R ∧ ∀ j, R j < 256
theorem sTy_lt {f : Nat → Nat} (hf : ∀ j, f j < 256) (a : Nat) (v : Int64) (n : Nat) : ∀ i j, sTy f a v n i j < 256
  | 0, j => hf j
  | i + 1, j => by
    rw [sTy_s]
    unfold nset
    split
    · exact sByte_lt _ _
    · exact sTy_lt hf a v n i j
theorem LT.type {X T I R : Nat → Nat} (h : LT X T I R) {v : Int64} {n : Nat} (hn : I 0 + n ≤ 200) : LT (nset X 0 (X 0 + n)) (sTy T (X 0) v n n) (nset I 0 (I 0 + n)) (sTy R (I 0) v n n) := by
  refine ⟨?_, ?_, ?_, sTy_lt h.2.2.2 _ _ _ _⟩
  · show X 0 + n = I 0 + n
    rw [h.1]
  · show I 0 + n ≤ 200
    exact hn
  · rw [h.2.2.1, h.1]
theorem LT.clear {X T I R : Nat → Nat} (h : LT X T I R) : LT (nset X 0 0) T (nset I 0 0) R := ⟨rfl, Nat.zero_le _, h.2.2⟩
theorem LT.read {X T I R I2 : Nat → Nat} {p : Nat} (h : LT X T I R) (h2 : I2 0 = I 0) : LT (kX T (X 0) p) T I2 R := ⟨h.1.trans h2.symm, by rw [h2]; exact h.2.1, h.2.2⟩
def LQ (Q J : Nat → Nat) : Prop := Q 0 = J 0 ∧ Q 1 = J 1
def LG (g : Nat) (R1 : Nat → Nat) (i : Nat) (F : Nat → Nat) (E : Nat → Nat → Nat) : Prop := g = 0 ∨ (g = 1 ∧ Wf (fun j => R1 (57 * i + j)) ∧ Rb (fun j => R1 (57 * i + j)) F E)
def LM (K Fp : Nat → Nat) (Ep : Nat → Nat → Nat) (Fq : Nat → Nat) (Eg : Nat → Nat → Nat) (R1 R2 : Nat → Nat) : Prop := K 0 = R2 0 ∧ K 1 = R2 1 ∧ LG (R2 0) R1 0 Fp Ep ∧ LG (R2 1) R1 1 Fq Eg
theorem LG.keep {g i : Nat} {R1 R1' F : Nat → Nat} {E : Nat → Nat → Nat} (h : LG g R1 i F E) (he : ∀ j, j < 57 → R1' (57 * i + j) = R1 (57 * i + j)) : LG g R1' i F E := by
  rcases h with h | ⟨h1, h2, h3⟩
  · exact Or.inl h
  · exact Or.inr ⟨h1, h2.ext he, h3.ext h2 he⟩
theorem cput_in {R1 M : Nat → Nat} {i j : Nat} (hj : j < 57) : cput R1 M (57 * i) 57 (57 * i + j) = M j := by
  unfold cput
  rw [if_pos (by omega), Nat.add_sub_cancel_left]
theorem cput_out {R1 M : Nat → Nat} {i i2 j : Nat} (hi : i2 ≠ i) (hj : j < 57) : cput R1 M (57 * i) 57 (57 * i2 + j) = R1 (57 * i2 + j) := by
  unfold cput
  rw [if_neg (by omega)]
theorem cget_in {f g : Nat → Nat} {c j : Nat} (hj : j < 57) : cget f g c 57 j = g (c + j) := if_pos hj
section LAWB
variable {p : Program} {l : Launch} {e : Env} {R : Room} {s : State} {m : MethodId} {args : Array Value} {below : List Frame} {meth : Method} {c : Code} {H H1 : Heap} {locs : List Loc} {Q : State → Prop} {cells slots : Nat}
variable {cc : ByteArray} {nL pc tgt : Nat} {off : Int} {ls : Array Slot} {rest : List Value} {Ts : List Cond} {own : String} {b0 L i n x1 x2 : Nat} {xs : Nat → Int32} {x y : Int32}
/-- the script's int at i + n -/
theorem lfe (hz : CallFix p m c cc 4 s args Ts own) (hX : va_X b0 L xs s s.heap) (hbl : b0 < s.heap.size) (hS : va_S (lA s) s.heap H locs) (hl : lv_has ls 4 [(0, .ref b0), (1, .ref x1), (2, .ref x2), (3, .int (nI i))]) (hi : i + n < L) (hL : L ≤ 3072) (hx : xs (i + n) = x) {kn : Int} (hkn : Int32.ofInt kn = nI n)
    (d0 : decode cc pc = .ok (.aload_n 0, 1)) (d1 : decode cc (pc + 1) = .ok (.iload_n 3, 1)) (d2 : decode cc (pc + 2) = .ok (.iconst kn, 1)) (d3 : decode cc (pc + 3) = .ok (.iadd, 1)) (d4 : decode cc (pc + 4) = .ok (.iaload, 1))
    (kk : W p l e R s m args below meth c H locs cells slots Q (F0 m (pc + 5) ls (.int x :: rest))) : W p l e R s m args below meth c H locs cells slots Q (F0 m pc ls rest) := by
  refine lv_aload_n hz.1 hz.2.1 d0 rfl (lv_at hl 0 rfl) ?_
  refine lv_iload_n hz.1 hz.2.1 d1 rfl (lv_at hl 3 rfl) ?_
  refine lv_iconst hz.1 hz.2.1 d2 hkn ?_
  refine lv_iadd hz.1 hz.2.1 d3 ?_
  refine toe (z := nI (i + n)) (nI_add _ _) ?_
  refine va_sld hz.1 hz.2.1 hX hbl (A := lA s) (Nat.not_le.mpr hbl) hS (vp_in_nI hi (by omega)) d4 ?_
  rw [nI_clamp (by omega), hx]
  exact kk
theorem ifT (hz : CallFix p m c cc nL s args Ts own) (h : x = 0) (hdg : decode cc pc = .ok (.ifCond .eq off, 3)) (ht : (pc : Int) + off = (tgt : Int)) (kk : W p l e R s m args below meth c H locs cells slots Q (F0 m tgt ls rest)) : W p l e R s m args below meth c H locs cells slots Q (F0 m pc ls (.int x :: rest)) :=
  lv_if_eq hz.1 hz.2.1 hdg ht (fun _ => kk) (fun q => absurd h q)
theorem ifF (hz : CallFix p m c cc nL s args Ts own) (h : ¬ x = 0) (hdg : decode cc pc = .ok (.ifCond .eq off, 3)) (ht : (pc : Int) + off = (tgt : Int)) (kk : W p l e R s m args below meth c H locs cells slots Q (F0 m (pc + 3) ls rest)) : W p l e R s m args below meth c H locs cells slots Q (F0 m pc ls (.int x :: rest)) :=
  lv_if_eq hz.1 hz.2.1 hdg ht (fun q => absurd q h) (fun _ => kk)
theorem cmpE (hz : CallFix p m c cc nL s args Ts own) (h : x = y) (hdg : decode cc pc = .ok (.if_icmp .eq off, 3)) (ht : (pc : Int) + off = (tgt : Int)) (kk : W p l e R s m args below meth c H locs cells slots Q (F0 m tgt ls rest)) : W p l e R s m args below meth c H locs cells slots Q (F0 m pc ls (.int y :: .int x :: rest)) :=
  lv_icmp_eq hz.1 hz.2.1 hdg ht (fun _ => kk) (fun q => absurd h q)
theorem cmpL {u v : Int64} (hz : CallFix p m c cc nL s args Ts own) (h : u = v) (d1 : decode cc pc = .ok (.lcmp, 1)) (hdg : decode cc (pc + 1) = .ok (.ifCond .eq off, 3)) (ht : ((pc + 1 : Nat) : Int) + off = (tgt : Int)) (kk : W p l e R s m args below meth c H locs cells slots Q (F0 m tgt ls rest)) : W p l e R s m args below meth c H locs cells slots Q (F0 m pc ls (.long v :: .long u :: rest)) :=
  W.lcmp hz.1 hz.2.1 d1 (lv_if_eq hz.1 hz.2.1 hdg ht (fun _ => kk) (fun q => absurd (lg_eq0.mpr h) q))
end LAWB
/-- the class's groups -/
def CPs (D : va_G) (k : Nat → ClassId) (a C F : Nat → Nat) (E : Nat → Nat → Nat) (Fd : Nat → Nat) (Ed : Nat → Nat → Nat) (Fp : Nat → Nat) (Ep : Nat → Nat → Nat) (Fq : Nat → Nat) (Eg : Nat → Nat → Nat) (K X T : Nat → Nat) (Z : Nat → Int32) (S Rr Y Nt Sl Mt : Nat → Nat) (Ch : Nat → Nat → Nat) (Q : Nat → Nat) (H : Heap) : Prop :=
  va_P D vwCl (ho a C) H ∧ va_P D vwCl (bw a 1 k F E) H ∧ va_P D vwCl (bw a 9 k Fd Ed) H ∧ va_P D vwCl (iw a k) H ∧ va_P D vwCl (bw a 18 k Fp Ep) H ∧ va_P D vwCl (bw a 26 k Fq Eg) H ∧ va_P D vwCl (kw a k K) H ∧ va_P D vwCl (tw a k X T) H ∧ va_P D vwCl (ww a k Z S Rr) H ∧ va_P D vwCl (tu a k Y Nt Sl Mt Ch) H ∧ va_P D vwCl (qw a Q) H
theorem CPs.kept {D : va_G} {k : Nat → ClassId} {a b C F : Nat → Nat} {E : Nat → Nat → Nat} {Fd : Nat → Nat} {Ed : Nat → Nat → Nat} {Fp : Nat → Nat} {Ep : Nat → Nat → Nat} {Fq : Nat → Nat} {Eg : Nat → Nat → Nat} {K X T : Nat → Nat} {Z : Nat → Int32} {S Rr Y Nt Sl Mt : Nat → Nat} {Ch : Nat → Nat → Nat} {Q I J : Nat → Nat} {G : Nat → Nat → Nat} {H H1 : Heap}
    (h : CPs D k a C F E Fd Ed Fp Ep Fq Eg K X T Z S Rr Y Nt Sl Mt Ch Q H) (hba : ∀ i j, i < 13 → j < 54 → b i ≠ a j) (hfr : ∀ q : Nat, q < H.size → ¬ wA (mw b k I J G) q → H1[q]? = H[q]?) : CPs D k a C F E Fd Ed Fp Ep Fq Eg K X T Z S Rr Y Nt Sl Mt Ch Q H1 := by
  have key : ∀ (g : va_W) (jx : List Nat), g.map (fun q => q.1) = jx.map a → (∀ j ∈ jx, j < 54) → va_P D vwCl g H → va_P D vwCl g H1 := fun g jx hg hj hP => keepX (wc := mw b k I J G) hba [0, 1, 2, 3, 4, 5, 6, 7, 8, 9, 10, 11, 12] jx rfl hg (by decide) hj hP hfr
  obtain ⟨h1, h2, h3, h4, h5, h6, h7, h8, h9, h10, h11⟩ := h
  exact ⟨key _ [0] rfl (by decide) h1, key _ [1, 2, 3, 4, 5, 6, 7, 8] rfl (by decide) h2, key _ [9, 10, 11, 12, 13, 14, 15, 16] rfl (by decide) h3, key _ [17] rfl (by decide) h4, key _ [18, 19, 20, 21, 22, 23, 24, 25] rfl (by decide) h5, key _ [26, 27, 28, 29, 30, 31, 32, 33] rfl (by decide) h6, key _ [34] rfl (by decide) h7, key _ [35, 36] rfl (by decide) h8, key _ [37, 38] rfl (by decide) h9, key _ [39, 40, 41, 42, 43, 44, 45, 46, 47, 48, 49, 50, 51, 52] rfl (by decide) h10, key _ [53] rfl (by decide) h11⟩
/-- the two, side by side -/
def LI (D : va_G) (k : Nat → ClassId) (a b : Nat → Nat) (H : Heap) : Prop :=
  ∃ (C F : Nat → Nat) (E : Nat → Nat → Nat) (Fd : Nat → Nat) (Ed : Nat → Nat → Nat) (Fp : Nat → Nat) (Ep : Nat → Nat → Nat) (Fq : Nat → Nat) (Eg : Nat → Nat → Nat) (K X T : Nat → Nat) (Z : Nat → Int32) (S Rr Y Nt Sl Mt : Nat → Nat) (Ch : Nat → Nat → Nat) (Q I J : Nat → Nat) (G : Nat → Nat → Nat),
    (LB (G 0) F E ∧ LC C (G 3) ∧ LT X T I (G 9) ∧ LQ Q J ∧ LM K Fp Ep Fq Eg (G 1) (G 2) ∧ tOK Nt Sl Ch) ∧ CPs D k a C F E Fd Ed Fp Ep Fq Eg K X T Z S Rr Y Nt Sl Mt Ch Q H ∧ va_P D vwCl (mw b k I J G) H
/-- what doesn't change while the law runs -/
def LE (p : Program) (s : State) (m : MethodId) (c : Code) (D : va_G) (k : Nat → ClassId) (a b : Nat → Nat) (b0 L : Nat) (xs : Nat → Int32) (tS : Nat) (sk sv : Nat → Nat) : Prop :=
  CallFix p m c cL_law 4 s #[Value.ref b0] wsL_law RL ∧ va_X b0 L xs s s.heap ∧ b0 < s.heap.size ∧ va_K D vwCl (tyL k) s ∧ Am tS sk sv (lA s) s s.heap ∧ aOK (lA s) a 54 ∧ aOK (lA s) b 13 ∧ (∀ i j, i < 54 → j < 13 → a i ≠ b j) ∧ L ≤ 3072
/-- the law goes well from this place on -/
def LK (p : Program) (l : Launch) (e : Env) (s : State) (m : MethodId) (below : List Frame) (meth : Method) (c : Code) (D : va_G) (k : Nat → ClassId) (a b : Nat → Nat) (b0 i pc : Nat) : Prop :=
  ∀ (H : Heap) (locs : List Loc), LI D k a b H → va_S (lA s) s.heap H locs → ∀ ls : Array Slot, lv_has ls 4 [(0, .ref b0), (1, .ref (a 0)), (2, .ref (b 0)), (3, .int (nI i))] → W p l e room_1 s m #[Value.ref b0] below meth c H locs 67 1855 (lw_Z below #[Value.ref b0] s) (F0 m pc ls [])
