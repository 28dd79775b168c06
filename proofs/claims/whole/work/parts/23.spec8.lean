theorem sR1_le {T : Nat → Nat} {L p : Nat} (hp : p ≤ L) : (sR1 T L p).2.1 ≤ L := by
  have h1 := sNx_in (T := T) hp
  have h2 := sNx_in (T := T) h1.2.1
  unfold sR1
  split
  · split
    · exact h2.2.1
    · exact h1.2.1
  · exact hp
theorem sR1_Wf {T : Nat → Nat} {L p : Nat} {N : Nat → Nat} (hk : (sR1 T L p).1 = true) : Wf (sBegin N (sR1 T L p).2.2) := by
  unfold sR1 at hk ⊢
  by_cases a : sW5 T L p 112 111 115 116 115 = true
  · rw [if_pos a] at hk ⊢
    by_cases b : sNum T L (sNx T L p) 2 9
    · rw [if_pos b] at hk ⊢; exact Wf.begin b.2.1 b.2.2
    · rw [if_neg b] at hk; cases hk
  · rw [if_neg a] at hk; cases hk
