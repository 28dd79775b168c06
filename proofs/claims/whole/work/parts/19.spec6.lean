theorem kTok_4 {x : Nat} (h1 : ¬ kTok x = 1) (h2 : ¬ kTok x = 2) (h3 : ¬ x = 59) : kTok x = 4 := by
  unfold kTok at *
  split
  · next h => rw [if_pos h] at h1; exact absurd rfl h1
  · next h =>
    rw [if_neg h] at h2
    split
    · next q => rw [if_pos q] at h2; exact absurd rfl h2
    · first | rfl | rw [if_neg h3]
def bN (z : Bool) : Nat := if z then 1 else 0
theorem sTk_in {T : Nat → Nat} {L p : Nat} (h : p < L) : sTk T L p = kTok (T p) := if_pos h
theorem sVl_is {T : Nat → Nat} {L p q : Nat} (hp : p < L) (h : kTok (T p) = 2) (hq : q = min 2 (sEd T L p - p)) : sVl T L p = sVp T p q := by
  unfold sVl; rw [sTk_in hp, if_pos h, hq]
theorem sVl_no {T : Nat → Nat} {L p : Nat} (hp : p < L) (h : ¬ kTok (T p) = 2) : sVl T L p = 0 := by
  unfold sVl; rw [sTk_in hp, if_neg h]
theorem tk_end {T : Nat → Nat} {L p : Nat} (h : ¬ p < L) : sEd T L p - p = 0 ∧ sKd T L p = 0 ∧ sVl T L p = 0 := by
  have e1 : sTk T L p = 0 := if_neg h
  refine ⟨by rw [sEd_end h]; omega, ?_, ?_⟩
  · unfold sKd; rw [e1]; simp
  · unfold sVl; rw [e1]; simp
/-- a word: a token of letters, of these n signs -/
def sWd (T : Nat → Nat) (tk lg p : Nat) (cs : Nat → Nat) (n : Nat) : Bool := decide (tk = 1) && decide (lg = n) && sAll (fun j => decide (T (p + j) = cs j)) n
def c5 (x0 x1 x2 x3 x4 : Nat) : Nat → Nat := fun j => if j = 0 then x0 else if j = 1 then x1 else if j = 2 then x2 else if j = 3 then x3 else x4
theorem sAll_no {f : Nat → Bool} {j : Nat} (h : sAll f j = false) : ∀ n, j ≤ n → sAll f n = false := by
  intro n hn
  induction n with
  | zero => rw [show j = 0 by omega] at h; exact h
  | succ n ih =>
    by_cases q : j = n + 1
    · rw [← q]; exact h
    · simp only [sAll, ih (by omega), Bool.false_and]
