/-! SPEC 7: a border told by a text -/
abbrev sNum (T : Nat → Nat) (L p lo hi : Nat) : Prop := sKd T L p = 2 ∧ lo ≤ sVl T L p ∧ sVl T L p ≤ hi
def sW5 (T : Nat → Nat) (L p : Nat) (x0 x1 x2 x3 x4 : Nat) : Bool := sWd T (sKd T L p) (sEd T L p - p) p (c5 x0 x1 x2 x3 x4) 5
def sW4 (T : Nat → Nat) (L p : Nat) (x0 x1 x2 x3 : Nat) : Bool := sWd T (sKd T L p) (sEd T L p - p) p (c5 x0 x1 x2 x3 0) 4
def sRW (T : Nat → Nat) (L p : Nat) (N : Nat → Nat) : Bool × Nat × (Nat → Nat) :=
  if sNum T L (sNx T L p) 0 (N 0 - 2) then
    if sNum T L (sNx T L (sNx T L p)) 0 4 then
      if sNum T L (sNx T L (sNx T L (sNx T L p))) 0 11 then (true, sNx T L (sNx T L (sNx T L (sNx T L p))), sWire N (sVl T L (sNx T L p)) (sVl T L (sNx T L (sNx T L p))) (sVl T L (sNx T L (sNx T L (sNx T L p)))))
      else (false, sNx T L (sNx T L (sNx T L p)), N)
    else (false, sNx T L (sNx T L p), N)
  else (false, sNx T L p, N)
def sRF (T : Nat → Nat) (L p : Nat) (N : Nat → Nat) : Bool × Nat × (Nat → Nat) :=
  if sNum T L (sNx T L p) 0 5 then (true, sNx T L (sNx T L p), nset N 1 (sVl T L (sNx T L p))) else (false, sNx T L p, N)
def sRG (T : Nat → Nat) (L p : Nat) (N : Nat → Nat) : Bool × Nat × (Nat → Nat) :=
  if sKd T L (sNx T L p) = 2 ∧ sVl T L (sNx T L p) < N 0 ∧ ¬ N 2 / 2 ^ sVl T L (sNx T L p) % 2 = 1 then (true, sNx T L (sNx T L p), nset N 2 (N 2 ||| 2 ^ sVl T L (sNx T L p))) else (false, sNx T L p, N)
def sRD (T : Nat → Nat) (L p : Nat) (N : Nat → Nat) : Bool × Nat × (Nat → Nat) :=
  if N 19 = 6 then (false, p, N) else
  if sNum T L (sNx T L p) 0 59 then
    if sNum T L (sNx T L (sNx T L p)) 0 (N 0 - 2) then (true, sNx T L (sNx T L (sNx T L p)), sAddWind N (sVl T L (sNx T L p)) (sVl T L (sNx T L (sNx T L p))))
    else (false, sNx T L (sNx T L p), N)
  else (false, sNx T L p, N)
def sRP (T : Nat → Nat) (L p : Nat) (N : Nat → Nat) : Bool × Nat × (Nat → Nat) :=
  if N 32 = 8 then (false, p, N) else
  if sNum T L (sNx T L p) 0 59 then
    if sNum T L (sNx T L (sNx T L p)) 0 (N 0 - 2) then
      if sNum T L (sNx T L (sNx T L (sNx T L p))) 0 3 then (true, sNx T L (sNx T L (sNx T L (sNx T L p))), sAddPass N (sVl T L (sNx T L p)) (sVl T L (sNx T L (sNx T L p))) (sVl T L (sNx T L (sNx T L (sNx T L p)))))
      else (false, sNx T L (sNx T L (sNx T L p)), N)
    else (false, sNx T L (sNx T L p), N)
  else (false, sNx T L p, N)
def sIt (T : Nat → Nat) (L p : Nat) (N : Nat → Nat) : Bool × Nat × (Nat → Nat) :=
  if sW4 T L p 119 105 114 101 then sRW T L p N else if sW5 T L p 102 114 111 115 116 then sRF T L p N else if sW5 T L p 103 117 97 114 100 then sRG T L p N
  else if sW4 T L p 119 105 110 100 then sRD T L p N else if sW4 T L p 112 97 115 115 then sRP T L p N else (false, p, N)
def sR1 (T : Nat → Nat) (L p : Nat) : Bool × Nat × Nat :=
  if sW5 T L p 112 111 115 116 115 then
    if sNum T L (sNx T L p) 2 9 then (decide (sKd T L (sNx T L (sNx T L p)) = 3), sNx T L (sNx T L p), sVl T L (sNx T L p)) else (false, sNx T L p, 0)
  else (false, p, 0)
/-- the items from p on: whether all is sound, then their number (else the fault), the border -/
def sRdL (T : Nat → Nat) (L : Nat) : Nat → Nat → (Nat → Nat) → Nat → Bool × Nat × (Nat → Nat)
  | 0, p, N, _ => (false, p, N)
  | fu + 1, p, N, it => if sKd T L p = 0 then (true, it, N) else
    if (sIt T L p N).1 = true ∧ sKd T L (sIt T L p N).2.1 = 3 then sRdL T L fu (sNx T L (sIt T L p N).2.1) (sIt T L p N).2.2 (it + 1) else (false, (sIt T L p N).2.1, N)
def sRd (T : Nat → Nat) (L : Nat) (N0 : Nat → Nat) : Bool × Nat × (Nat → Nat) :=
  if (sR1 T L (sAt T L 0)).1 = true then sRdL T L 300 (sNx T L (sR1 T L (sAt T L 0)).2.1) (sBegin N0 (sR1 T L (sAt T L 0)).2.2) 1 else (false, (sR1 T L (sAt T L 0)).2.1, N0)
theorem sIt_le {T : Nat → Nat} {L p : Nat} (N : Nat → Nat) (hp : p ≤ L) : p ≤ (sIt T L p N).2.1 ∧ (sIt T L p N).2.1 ≤ L := by
  have h1 := sNx_in (T := T) hp
  have h2 := sNx_in (T := T) h1.2.1
  have h3 := sNx_in (T := T) h2.2.1
  have h4 := sNx_in (T := T) h3.2.1
  unfold sIt
  repeat' split
  all_goals first | (unfold sRW; repeat' split) | (unfold sRF; repeat' split) | (unfold sRG; repeat' split) | (unfold sRD; repeat' split) | (unfold sRP; repeat' split) | skip
  all_goals (simp only; omega)
theorem Wf.begin {N : Nat → Nat} {v : Nat} (h1 : 2 ≤ v) (h2 : v ≤ 9) : Wf (sBegin N v) := by
  have e : ∀ j, j ≠ 0 → j < 57 → sBegin N v j = 0 := fun j h h' => by unfold sBegin; rw [nset_ne _ _ h]; exact if_pos h'
  have e0 : sBegin N v 0 = v := nset_same _ _ _
  refine ⟨by rw [e0]; omega, by rw [e 1 (by omega) (by omega)]; omega, by rw [e 2 (by omega) (by omega)]; exact Nat.two_pow_pos _, fun w hw => ?_, ⟨by rw [e 19 (by omega) (by omega)]; omega, fun i hi => ?_⟩, ⟨by rw [e 32 (by omega) (by omega)]; omega, fun i hi => ?_⟩⟩
  · rw [e (3 + w) (by omega) (by omega), e (11 + w) (by omega) (by omega)]; omega
  · rw [e 19 (by omega) (by omega)] at hi; omega
  · rw [e 32 (by omega) (by omega)] at hi; omega
theorem Wf.wire {M : Nat → Nat} (h : Wf M) {w kd t : Nat} (hw : w < 8) (hk : kd ≤ 4) (ht : t ≤ 11) : Wf (sWire M w kd t) := by
  have h2 := h.kset hw hk
  unfold sWire
  generalize nset M (3 + w) kd = M' at h2
  have e : ∀ j, j ≠ 11 + w → nset M' (11 + w) t j = M' j := fun j hj => nset_ne M' t hj
  have e0 : nset M' (11 + w) t 0 = M' 0 := e 0 (by omega)
  have e19 : nset M' (11 + w) t 19 = M' 19 := e 19 (by omega)
  have e32 : nset M' (11 + w) t 32 = M' 32 := e 32 (by omega)
  refine ⟨by rw [e0]; exact h2.1, by rw [e 1 (by omega)]; exact h2.2.1, by rw [e 2 (by omega), e0]; exact h2.2.2.1, fun v hv => ⟨?_, ?_⟩, ⟨by rw [e19]; exact h2.wc, fun i hi => ?_⟩, ⟨by rw [e32]; exact h2.pc, fun i hi => ?_⟩⟩
  · rw [e _ (by omega)]; exact h2.kd hv
  · by_cases q : v = w
    · subst q; rw [nset_same]; exact ht
    · rw [e _ (by omega)]; exact h2.tn hv
  · rw [e19] at hi
    rw [e (20 + 2 * i) (by omega), e (20 + 2 * i + 1) (by omega), e0]; exact h2.wi hi
  · rw [e32] at hi
    rw [e (33 + 3 * i) (by omega), e (33 + 3 * i + 1) (by omega), e (33 + 3 * i + 2) (by omega), e0]; exact h2.pi hi
theorem Wf.small {M : Nat → Nat} (h : Wf M) {j v : Nat} (hj : (j = 1 ∧ v ≤ 5) ∨ (j = 2 ∧ v < 2 ^ M 0) ∨ (j = 19 ∧ v ≤ M 19) ∨ (j = 32 ∧ v ≤ M 32)) : Wf (nset M j v) := by
  have hj2 : j = 1 ∨ j = 2 ∨ j = 19 ∨ j = 32 := by omega
  have e : ∀ i, i ≠ j → nset M j v i = M i := fun i hi => nset_ne M v hi
  have e0 : nset M j v 0 = M 0 := e 0 (by omega)
  have h1 : nset M j v 1 ≤ 5 := by
    by_cases q : j = 1
    · subst q; rw [nset_same]; omega
    · rw [e 1 (by omega)]; exact h.fr
  have h2 : nset M j v 2 < 2 ^ M 0 := by
    by_cases q : j = 2
    · subst q; rw [nset_same]; omega
    · rw [e 2 (by omega)]; exact h.2.2.1
  have h19 : nset M j v 19 ≤ M 19 := by
    by_cases q : j = 19
    · subst q; rw [nset_same]; omega
    · rw [e 19 (by omega)]; omega
  have h32 : nset M j v 32 ≤ M 32 := by
    by_cases q : j = 32
    · subst q; rw [nset_same]; omega
    · rw [e 32 (by omega)]; omega
  have hc := h.wc
  have hp := h.pc
  refine ⟨by rw [e0]; exact h.1, h1, by rw [e0]; exact h2, fun w hw => ?_, ⟨by omega, fun i hi => ?_⟩, ⟨by omega, fun i hi => ?_⟩⟩
  · rw [e (3 + w) (by omega), e (11 + w) (by omega)]; exact h.2.2.2.1 w hw
  · rw [e (20 + 2 * i) (by omega), e (20 + 2 * i + 1) (by omega), e0]; exact h.wi (by omega)
  · rw [e (33 + 3 * i) (by omega), e (33 + 3 * i + 1) (by omega), e (33 + 3 * i + 2) (by omega), e0]; exact h.pi (by omega)
theorem Wf.addWind {M : Nat → Nat} (h : Wf M) {m w : Nat} (hc : M 19 < 6) (hm : m < 60) (hw : w < M 0 - 1) : Wf (sAddWind M m w) := by
  have e : ∀ j, j ≠ 20 + 2 * M 19 → j ≠ 20 + 2 * M 19 + 1 → j ≠ 19 → sAddWind M m w j = M j := fun j a b c => by
    unfold sAddWind; rw [nset_ne _ _ c, nset_ne _ _ b, nset_ne _ _ a]
  have e19 : sAddWind M m w 19 = M 19 + 1 := nset_same _ _ _
  have ea : sAddWind M m w (20 + 2 * M 19) = m := by unfold sAddWind; rw [nset_ne _ _ (by omega), nset_ne _ _ (by omega), nset_same]
  have eb : sAddWind M m w (20 + 2 * M 19 + 1) = w := by unfold sAddWind; rw [nset_ne _ _ (by omega), nset_same]
  have e0 : sAddWind M m w 0 = M 0 := e 0 (by omega) (by omega) (by omega)
  have e32 : sAddWind M m w 32 = M 32 := e 32 (by omega) (by omega) (by omega)
  refine ⟨by rw [e0]; exact h.1, by rw [e 1 (by omega) (by omega) (by omega)]; exact h.fr, by rw [e 2 (by omega) (by omega) (by omega), e0]; exact h.2.2.1, fun v hv => ?_, ⟨by rw [e19]; omega, fun i hi => ?_⟩, ⟨by rw [e32]; exact h.pc, fun i hi => ?_⟩⟩
  · rw [e (3 + v) (by omega) (by omega) (by omega), e (11 + v) (by omega) (by omega) (by omega)]; exact h.2.2.2.1 v hv
  · rw [e19] at hi
    by_cases q : i = M 19
    · subst q; rw [ea, eb, e0]; exact ⟨hm, hw⟩
    · rw [e (20 + 2 * i) (by omega) (by omega) (by omega), e (20 + 2 * i + 1) (by omega) (by omega) (by omega), e0]; exact h.wi (by omega)
  · rw [e32] at hi
    have := h.pc
    rw [e (33 + 3 * i) (by omega) (by omega) (by omega), e (33 + 3 * i + 1) (by omega) (by omega) (by omega), e (33 + 3 * i + 2) (by omega) (by omega) (by omega), e0]; exact h.pi hi
theorem Wf.addPass {M : Nat → Nat} (h : Wf M) {m w s : Nat} (hc : M 32 < 8) (hm : m < 60) (hw : w < M 0 - 1) (hs : s ≤ 3) : Wf (sAddPass M m w s) := by
  have e : ∀ j, j ≠ 33 + 3 * M 32 → j ≠ 33 + 3 * M 32 + 1 → j ≠ 33 + 3 * M 32 + 2 → j ≠ 32 → sAddPass M m w s j = M j := fun j a b c d => by
    unfold sAddPass; rw [nset_ne _ _ d, nset_ne _ _ c, nset_ne _ _ b, nset_ne _ _ a]
  have e32 : sAddPass M m w s 32 = M 32 + 1 := nset_same _ _ _
  have ea : sAddPass M m w s (33 + 3 * M 32) = m := by unfold sAddPass; rw [nset_ne _ _ (by omega), nset_ne _ _ (by omega), nset_ne _ _ (by omega), nset_same]
  have eb : sAddPass M m w s (33 + 3 * M 32 + 1) = w := by unfold sAddPass; rw [nset_ne _ _ (by omega), nset_ne _ _ (by omega), nset_same]
  have ec : sAddPass M m w s (33 + 3 * M 32 + 2) = s := by unfold sAddPass; rw [nset_ne _ _ (by omega), nset_same]
  have hw6 := h.wc
  have e' : ∀ j, j < 32 → sAddPass M m w s j = M j := fun j hj => e j (by omega) (by omega) (by omega) (by omega)
  refine ⟨by rw [e' 0 (by omega)]; exact h.1, by rw [e' 1 (by omega)]; exact h.fr, by rw [e' 2 (by omega), e' 0 (by omega)]; exact h.2.2.1, fun v hv => ?_, ⟨by rw [e' 19 (by omega)]; omega, fun i hi => ?_⟩, ⟨by rw [e32]; omega, fun i hi => ?_⟩⟩
  · rw [e' (3 + v) (by omega), e' (11 + v) (by omega)]; exact h.2.2.2.1 v hv
  · rw [e' 19 (by omega)] at hi
    rw [e' (20 + 2 * i) (by omega), e' (20 + 2 * i + 1) (by omega), e' 0 (by omega)]; exact h.wi hi
  · rw [e32] at hi
    by_cases q : i = M 32
    · subst q; rw [ea, eb, ec, e' 0 (by omega)]; exact ⟨hm, hw, hs⟩
    · rw [e (33 + 3 * i) (by omega) (by omega) (by omega) (by omega), e (33 + 3 * i + 1) (by omega) (by omega) (by omega) (by omega), e (33 + 3 * i + 2) (by omega) (by omega) (by omega) (by omega), e' 0 (by omega)]; exact h.pi (by omega)
theorem sRW_Wf {T : Nat → Nat} {L p : Nat} {N : Nat → Nat} (h : Wf N) (hk : (sRW T L p N).1 = true) : Wf (sRW T L p N).2.2 := by
  have h2 := h.n2
  have h9 := h.n9
  unfold sRW at hk ⊢
  by_cases a : sNum T L (sNx T L p) 0 (N 0 - 2)
  · rw [if_pos a] at hk ⊢
    by_cases b : sNum T L (sNx T L (sNx T L p)) 0 4
    · rw [if_pos b] at hk ⊢
      by_cases c : sNum T L (sNx T L (sNx T L (sNx T L p))) 0 11
      · rw [if_pos c] at hk ⊢; exact h.wire (by have := a.2.2; omega) b.2.2 c.2.2
      · rw [if_neg c] at hk; cases hk
    · rw [if_neg b] at hk; cases hk
  · rw [if_neg a] at hk; cases hk
theorem sRF_Wf {T : Nat → Nat} {L p : Nat} {N : Nat → Nat} (h : Wf N) (hk : (sRF T L p N).1 = true) : Wf (sRF T L p N).2.2 := by
  unfold sRF at hk ⊢
  by_cases a : sNum T L (sNx T L p) 0 5
  · rw [if_pos a] at hk ⊢; exact h.small (Or.inl ⟨rfl, a.2.2⟩)
  · rw [if_neg a] at hk; cases hk
theorem sRG_Wf {T : Nat → Nat} {L p : Nat} {N : Nat → Nat} (h : Wf N) (hk : (sRG T L p N).1 = true) : Wf (sRG T L p N).2.2 := by
  unfold sRG at hk ⊢
  by_cases a : sKd T L (sNx T L p) = 2 ∧ sVl T L (sNx T L p) < N 0 ∧ ¬ N 2 / 2 ^ sVl T L (sNx T L p) % 2 = 1
  · rw [if_pos a] at hk ⊢; exact h.small (Or.inr (Or.inl ⟨rfl, Nat.or_lt_two_pow h.2.2.1 (Nat.pow_lt_pow_right (by decide) a.2.1)⟩))
  · rw [if_neg a] at hk; cases hk
theorem sRD_Wf {T : Nat → Nat} {L p : Nat} {N : Nat → Nat} (h : Wf N) (hk : (sRD T L p N).1 = true) : Wf (sRD T L p N).2.2 := by
  have h2 := h.n2
  have hc := h.wc
  unfold sRD at hk ⊢
  by_cases z : N 19 = 6
  · rw [if_pos z] at hk; cases hk
  · rw [if_neg z] at hk ⊢
    by_cases a : sNum T L (sNx T L p) 0 59
    · rw [if_pos a] at hk ⊢
      by_cases b : sNum T L (sNx T L (sNx T L p)) 0 (N 0 - 2)
      · rw [if_pos b] at hk ⊢; exact h.addWind (by omega) (by have := a.2.2; omega) (by have := b.2.2; omega)
      · rw [if_neg b] at hk; cases hk
    · rw [if_neg a] at hk; cases hk
theorem sRP_Wf {T : Nat → Nat} {L p : Nat} {N : Nat → Nat} (h : Wf N) (hk : (sRP T L p N).1 = true) : Wf (sRP T L p N).2.2 := by
  have h2 := h.n2
  have hc := h.pc
  unfold sRP at hk ⊢
  by_cases z : N 32 = 8
  · rw [if_pos z] at hk; cases hk
  · rw [if_neg z] at hk ⊢
    by_cases a : sNum T L (sNx T L p) 0 59
    · rw [if_pos a] at hk ⊢
      by_cases b : sNum T L (sNx T L (sNx T L p)) 0 (N 0 - 2)
      · rw [if_pos b] at hk ⊢
        by_cases c : sNum T L (sNx T L (sNx T L (sNx T L p))) 0 3
        · rw [if_pos c] at hk ⊢; exact h.addPass (by omega) (by have := a.2.2; omega) (by have := b.2.2; omega) c.2.2
        · rw [if_neg c] at hk; cases hk
      · rw [if_neg b] at hk; cases hk
    · rw [if_neg a] at hk; cases hk
theorem sIt_Wf {T : Nat → Nat} {L p : Nat} {N : Nat → Nat} (h : Wf N) (hk : (sIt T L p N).1 = true) : Wf (sIt T L p N).2.2 := by
  unfold sIt at hk ⊢
  by_cases a : sW4 T L p 119 105 114 101 = true
  · rw [if_pos a] at hk ⊢; exact sRW_Wf h hk
  · rw [if_neg a] at hk ⊢
    by_cases b : sW5 T L p 102 114 111 115 116 = true
    · rw [if_pos b] at hk ⊢; exact sRF_Wf h hk
    · rw [if_neg b] at hk ⊢
      by_cases c : sW5 T L p 103 117 97 114 100 = true
      · rw [if_pos c] at hk ⊢; exact sRG_Wf h hk
      · rw [if_neg c] at hk ⊢
        by_cases d : sW4 T L p 119 105 110 100 = true
        · rw [if_pos d] at hk ⊢; exact sRD_Wf h hk
        · rw [if_neg d] at hk ⊢
          by_cases e : sW4 T L p 112 97 115 115 = true
          · rw [if_pos e] at hk ⊢; exact sRP_Wf h hk
          · rw [if_neg e] at hk; cases hk
