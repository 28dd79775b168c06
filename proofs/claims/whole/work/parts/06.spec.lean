/-! SPEC 1: the document's words over M, the border as a row of numbers (0 posts, 1 frost, 2 guards, 3.. kinds, 11.. tunes, 19 winds, 20.. (minute, wire), 32 passes, 33.. (minute, wire, step)) -/
def Wf (M : Nat → Nat) : Prop := (2 ≤ M 0 ∧ M 0 ≤ 9) ∧ M 1 ≤ 5 ∧ M 2 < 2 ^ M 0 ∧ (∀ w, w < 8 → M (3 + w) ≤ 4 ∧ M (11 + w) ≤ 11) ∧ (M 19 ≤ 6 ∧ ∀ i, i < M 19 → M (20 + 2 * i) < 60 ∧ M (20 + 2 * i + 1) < M 0 - 1) ∧ (M 32 ≤ 8 ∧ ∀ i, i < M 32 → M (33 + 3 * i) < 60 ∧ M (33 + 3 * i + 1) < M 0 - 1 ∧ M (33 + 3 * i + 2) ≤ 3)
theorem Wf.n2 {M : Nat → Nat} (h : Wf M) : 2 ≤ M 0 := h.1.1
theorem Wf.n9 {M : Nat → Nat} (h : Wf M) : M 0 ≤ 9 := h.1.2
theorem Wf.fr {M : Nat → Nat} (h : Wf M) : M 1 ≤ 5 := h.2.1
theorem Wf.gd {M : Nat → Nat} (h : Wf M) : M 2 < 512 := Nat.lt_of_lt_of_le h.2.2.1 (Nat.pow_le_pow_right (n := 2) (by decide) h.1.2)
theorem Wf.kd {M : Nat → Nat} (h : Wf M) {w : Nat} (hw : w < 8) : M (3 + w) ≤ 4 := (h.2.2.2.1 w hw).1
theorem Wf.tn {M : Nat → Nat} (h : Wf M) {w : Nat} (hw : w < 8) : M (11 + w) ≤ 11 := (h.2.2.2.1 w hw).2
theorem Wf.wc {M : Nat → Nat} (h : Wf M) : M 19 ≤ 6 := h.2.2.2.2.1.1
theorem Wf.wi {M : Nat → Nat} (h : Wf M) {i : Nat} (hi : i < M 19) : M (20 + 2 * i) < 60 ∧ M (20 + 2 * i + 1) < M 0 - 1 := h.2.2.2.2.1.2 i hi
theorem Wf.pc {M : Nat → Nat} (h : Wf M) : M 32 ≤ 8 := h.2.2.2.2.2.1
theorem Wf.pi {M : Nat → Nat} (h : Wf M) {i : Nat} (hi : i < M 32) : M (33 + 3 * i) < 60 ∧ M (33 + 3 * i + 1) < M 0 - 1 ∧ M (33 + 3 * i + 2) ≤ 3 := h.2.2.2.2.2.2 i hi
def sStr (st : Nat) : Nat := if st = 3 then 3 else st + 1
def sLoud (kd s : Nat) : Nat := if kd = 1 then s + 2 else if kd = 2 then s - 1 else if kd = 3 then s - 1 else if kd = 4 then 0 else s
def sNoteBy (kd t f : Nat) : Nat := (if kd = 3 then t + 11 else if kd = 2 then t + f + 11 else t + f) % 12
def sNote (M : Nat → Nat) (w : Nat) : Nat := sNoteBy (M (3 + w)) (M (11 + w)) (M 1)
def sFar (p w : Nat) : Nat := if w < p then p - w - 1 else w - p
def sHears (M : Nat → Nat) (p w s : Nat) : Bool := decide (sFar p w < sLoud (M (3 + w)) s)
def sNoteAt (M : Nat → Nat) (p w s : Nat) : Nat := if sHears M p w s then 2 ^ sNote M w else 0
def sNotesBy (M : Nat → Nat) (p w st : Nat) : Nat := if st = 3 ∧ w + 1 < M 0 - 1 then sNoteAt M p w (sStr st) ||| sNoteAt M p (w + 1) 1 else sNoteAt M p w (sStr st)
theorem sNoteBy_lt (kd t f : Nat) : sNoteBy kd t f < 12 := Nat.mod_lt _ (by decide)
theorem sNote_lt (M : Nat → Nat) (w : Nat) : sNote M w < 12 := sNoteBy_lt _ _ _
theorem sNoteAt_lt (M : Nat → Nat) (p w s : Nat) : sNoteAt M p w s < 4096 := by
  unfold sNoteAt
  split
  · exact Nat.pow_lt_pow_right (a := 2) (n := 12) (by decide) (sNote_lt M w)
  · decide
theorem sNotesBy_lt (M : Nat → Nat) (p w st : Nat) : sNotesBy M p w st < 4096 := by
  unfold sNotesBy
  split
  · exact Nat.or_lt_two_pow (n := 12) (sNoteAt_lt _ _ _ _) (sNoteAt_lt _ _ _ _)
  · exact sNoteAt_lt _ _ _ _
/-- a, and all f i, i below n, by or -/
def sOr (a : Nat) (f : Nat → Nat) : Nat → Nat
  | 0 => a
  | n + 1 => sOr a f n ||| f n
theorem sOr_lt {a : Nat} {f : Nat → Nat} (ha : a < 4096) (h : ∀ i, f i < 4096) : ∀ n, sOr a f n < 4096
  | 0 => ha
  | n + 1 => Nat.or_lt_two_pow (n := 12) (sOr_lt ha h n) (h n)
def sPassF (M : Nat → Nat) (p m i : Nat) : Nat := if M (33 + 3 * i) = m then sNotesBy M p (M (33 + 3 * i + 1)) (M (33 + 3 * i + 2)) else 0
def sWindF (M : Nat → Nat) (p m i : Nat) : Nat := if M (20 + 2 * i) = m then sNoteAt M p (M (20 + 2 * i + 1)) 1 else 0
def sHeard (M : Nat → Nat) (p m : Nat) : Nat := sOr (sOr 0 (sPassF M p m) (M 32)) (sWindF M p m) (M 19)
theorem sPassF_lt (M : Nat → Nat) (p m i : Nat) : sPassF M p m i < 4096 := by
  unfold sPassF
  split
  · exact sNotesBy_lt _ _ _ _
  · exact Nat.zero_lt_succ _
theorem sWindF_lt (M : Nat → Nat) (p m i : Nat) : sWindF M p m i < 4096 := by
  unfold sWindF
  split
  · exact sNoteAt_lt _ _ _ _
  · exact Nat.zero_lt_succ _
theorem sHeard_lt (M : Nat → Nat) (p m : Nat) : sHeard M p m < 4096 := sOr_lt (sOr_lt (Nat.zero_lt_succ _) (sPassF_lt M p m) _) (sWindF_lt M p m) _
theorem sLoud_le (kd s : Nat) : sLoud kd s ≤ s + 2 := by unfold sLoud; split; omega; split; omega; split; omega; split <;> omega
theorem sFar_le (p w : Nat) : sFar p w ≤ p + w := by unfold sFar; split <;> omega
theorem sStr_in {st : Nat} (h : st ≤ 3) : 1 ≤ sStr st ∧ sStr st ≤ 3 := by unfold sStr; split <;> omega
/-- how many ones -/
def sPop (x : Nat) : Nat := if h : x = 0 then 0 else x % 2 + sPop (x / 2)
termination_by x
decreasing_by omega
theorem sPop_0 : sPop 0 = 0 := by rw [sPop]; rfl
theorem sPop_s {x : Nat} (h : x ≠ 0) : sPop x = x % 2 + sPop (x / 2) := by rw [sPop]; rw [dif_neg h]
theorem sPop_le (x : Nat) : sPop x ≤ x := by
  induction x using Nat.strongRecOn with
  | _ x ih =>
    by_cases h : x = 0
    · subst h; rw [sPop_0]; exact Nat.le_refl _
    · rw [sPop_s h]; have := ih (x / 2) (by omega); omega
/-- the world of the reference: its cells by the numbers that they hold -/
def mw (b : Nat → Nat) (k : Nat → ClassId) (I J : Nat → Nat) (G : Nat → Nat → Nat) : va_W :=
  [(b 0, .inr (6, [.ref (b 1), .ref (b 2), .ref (b 3), .ref (b 4), .long (lN (J 0)), .long (lN (J 1)), .ref (b 5), .ref (b 6), .ref (b 7), .ref (b 8), .ref (b 9), .ref (b 10), .int (nI (I 0)), .int (nI (I 1)), .int (nI (I 2)), .int (nI (I 3)), .int (nI (I 4)), .ref (b 11), .ref (b 12)])),
   (b 1, .inl (k 0, 57, .inl (fun i => nI (G 0 i)))), (b 2, .inl (k 0, 114, .inl (fun i => nI (G 1 i)))), (b 3, .inl (k 2, 2, .inl (fun i => nI (G 2 i)))), (b 4, .inl (k 0, 3, .inl (fun i => nI (G 3 i)))),
   (b 5, .inl (k 0, 8, .inl (fun i => nI (G 4 i)))), (b 6, .inl (k 0, 8, .inl (fun i => nI (G 5 i)))), (b 7, .inl (k 0, 768, .inl (fun i => nI (G 6 i)))), (b 8, .inl (k 0, 8, .inl (fun i => nI (G 7 i)))), (b 9, .inl (k 0, 8, .inl (fun i => nI (G 8 i)))),
   (b 10, .inl (k 0, 200, .inl (fun i => nI (G 9 i)))), (b 11, .inl (k 0, 57, .inl (fun i => nI (G 10 i)))), (b 12, .inl (k 0, 3, .inl (fun i => nI (G 11 i))))]
theorem mw_D {A : Nat → Prop} {b : Nat → Nat} {k : Nat → ClassId} {I J I' J' : Nat → Nat} {G G' : Nat → Nat → Nat} (h : va_D A (mw b k I J G)) : va_D A (mw b k I' J' G') := h.same rfl
