/-! SPEC 3: facts of the folds -/
theorem fb_ct1 {p : Nat → Bool} {n : Nat} (h : p n = true) : fb_ct p (n + 1) = fb_ct p n + 1 := by rw [fb_ct_succ, if_pos h]
theorem fb_ct0 {p : Nat → Bool} {n : Nat} (h : p n = false) : fb_ct p (n + 1) = fb_ct p n := by rw [fb_ct_succ, if_neg (by rw [h]; decide)]; rfl
theorem sWhP_at {M : Nat → Nat} {a ha b hb w st : Nat} (h : st < 4) : sWhP M a ha b hb (4 * w + st) = (decide (sNotesBy M a w st = ha) && decide (sNotesBy M b w st = hb)) := by
  unfold sWhP
  rw [show (4 * w + st) / 4 = w by omega, show (4 * w + st) % 4 = st by omega]
theorem sWhF1 {P : Nat → Bool} {i : Int32} {w st : Nat} (h : st < 4) (h1 : P (4 * w + st) = true) (h2 : nI (fb_ct P (4 * w + st)) = i) : sWhF P i (4 * w + st + 1) = nI (10 * w + st) := by
  rw [sWhF, if_pos ⟨h1, h2⟩, show (4 * w + st) / 4 = w by omega, show (4 * w + st) % 4 = st by omega]
theorem sWhF0 {P : Nat → Bool} {i : Int32} {j : Nat} (h : ¬ (P j = true ∧ nI (fb_ct P j) = i)) : sWhF P i (j + 1) = sWhF P i j := by
  rw [sWhF, if_neg h]
theorem sCov_lt {C : Nat → Bool} : ∀ {s t : Nat}, sCov C s = some t → t < s
  | 0, t, h => by cases h
  | s + 1, t, h => by
    simp only [sCov] at h
    cases h2 : sCov C s with
    | none =>
      rw [h2] at h
      simp only at h
      by_cases hc : C s = true
      · rw [if_pos hc] at h; cases h; omega
      · rw [if_neg hc] at h; cases h
    | some t' =>
      rw [h2] at h
      simp only at h
      have := sCov_lt h2
      split at h
      · cases h; omega
      · cases h; omega
theorem sCov_n1 {C : Nat → Bool} {s : Nat} (h : sCov C s = none) (hc : C s = true) : sCov C (s + 1) = some s := by simp [sCov, h, hc]
theorem sCov_n0 {C : Nat → Bool} {s : Nat} (h : sCov C s = none) (hc : C s = false) : sCov C (s + 1) = none := by simp [sCov, h, hc]
theorem sCov_s1 {C : Nat → Bool} {s t : Nat} (h : sCov C s = some t) (hp : sPop s < sPop t) (hc : C s = true) : sCov C (s + 1) = some s := by simp [sCov, h, hc, hp]
theorem sCov_s0 {C : Nat → Bool} {s t : Nat} (h : sCov C s = some t) (hp : ¬ (sPop s < sPop t ∧ C s = true)) : sCov C (s + 1) = some t := by
  simp only [sCov, h]
  rw [if_neg]
  simp only [Bool.and_eq_true, decide_eq_true_eq]
  exact hp
theorem sNoticed_le {M : Nat → Nat} (hf : Wf M) (m w : Nat) : sNoticed M m w ≤ 9 := Nat.le_trans (fb_ct_le _ _) hf.n9
theorem sSlC_le {M : Nat → Nat} (hf : Wf M) (m w : Nat) : sSlC M m w ≤ 100 := by
  unfold sSlC
  split
  · exact Nat.le_refl _
  · have := sNoticed_le hf m w; omega
theorem sSlW_le (c : Nat → Nat) (m : Nat) (s0 : Nat × Option Nat) : ∀ w, (sSlW c m s0 w).1 ≤ s0.1
  | 0 => Nat.le_refl _
  | w + 1 => by
    have := sSlW_le c m s0 w
    unfold sSlW
    split
    · simp only; omega
    · exact this
theorem sSlM_le (c : Nat → Nat → Nat) (n : Nat) : ∀ m, (sSlM c n m).1 ≤ 100
  | 0 => Nat.le_refl _
  | m + 1 => Nat.le_trans (sSlW_le _ _ _ _) (sSlM_le c n m)
theorem sSlW_lt {c : Nat → Nat} {m B : Nat} {s0 : Nat × Option Nat} (h0 : ∀ j, s0.2 = some j → j < B) : ∀ w, 100 * m + w ≤ B → ∀ j, (sSlW c m s0 w).2 = some j → j < B
  | 0, _, j, h => h0 j h
  | w + 1, hb, j, h => by
    unfold sSlW at h
    split at h
    · cases h; omega
    · exact sSlW_lt h0 w (by omega) j h
theorem sSlM_lt {c : Nat → Nat → Nat} {n : Nat} (hn : n ≤ 8) : ∀ m, m ≤ 60 → ∀ j, (sSlM c n m).2 = some j → j < 10000
  | 0, _, j, h => by cases h
  | m + 1, hm, j, h => sSlW_lt (sSlM_lt hn m (by omega)) n (by omega) j h
def sSlipA (M : Nat → Nat) (wh : Nat) : Int32 := if wh = 1 ∨ (sSlip M).2 = none then oI (sSlip M).2 else nI (sSlip M).1
def sCv (n k j : Nat) : Nat := if n < k then 0 else sCh n j
theorem sCv_end {n k : Nat} (hn : n < 10) (hk : k < 10) : sCv n k k = sCh n k := by
  unfold sCv
  split
  · next h => exact (sCh_big n hn k hk h).symm
  · rfl
theorem sCv_zero {n k j : Nat} (hn : n < 10) (hk : k < 10) (hj : j ≤ k) (h : ¬ 0 < sCv n k j) : sCh n k = 0 := by
  by_cases hnk : n < k
  · exact sCh_big n hn k hk hnk
  · unfold sCv at h
    rw [if_neg hnk] at h
    exact absurd (sCh_pos n hn j (by omega)).1 h
theorem sCv_lt {n k j : Nat} (hn : n < 10) (hj : j < 10) : sCv n k j < 1000 := by
  unfold sCv
  split
  · omega
  · exact sCh_lt n hn j hj
theorem sDfN_lt {M : Nat → Nat} (hf : Wf M) (w st : Nat) : sDfN M w st < 10 := Nat.lt_succ_of_le (Nat.le_trans (fb_ct_le _ _) hf.n9)
theorem sSuF_lt {M : Nat → Nat} (hf : Wf M) {kk st w j : Nat} (hk : kk < 10) (h : sSuF M kk st w = some j) : j < 1000 := by
  unfold sSuF at h
  split at h
  · cases h
  · cases h; exact sCh_lt _ (sDfN_lt hf w st) _ hk
theorem sSu_lt {f : Nat → Option Nat} {B : Nat} (hf : ∀ w j, f w = some j → j < B) : ∀ w j, (sSu f w).2 = some j → j < B
  | 0, j, h => by cases h
  | w + 1, j, h => by
    unfold sSu at h
    split at h
    · exact hf w j h
    · exact sSu_lt hf w j h
theorem sSu_ix {f : Nat → Option Nat} : ∀ w j, (sSu f w).1 = some j → j < w ∧ f j = (sSu f w).2 ∧ ∃ d, (sSu f w).2 = some d
  | 0, j, h => by cases h
  | w + 1, j, h => by
    unfold sSu at h ⊢
    split at h
    · next q =>
      rw [if_pos q]
      cases h
      refine ⟨by omega, rfl, ?_⟩
      cases hd : f w with
      | none => rw [hd] at q; cases hs : (sSu f w).2 <;> rw [hs] at q <;> cases q
      | some d => exact ⟨d, rfl⟩
    · next q =>
      rw [if_neg q]
      have := sSu_ix w j h
      exact ⟨by omega, this.2⟩
theorem sPrF_le {M : Nat → Nat} (w : Nat) : sPrF M w ≤ M 0 := fb_ct_le _ _
theorem sPairs_le {M : Nat → Nat} (hf : Wf M) : sPairs M ≤ 81 := by
  have h1 := hf.n9
  have h2 : sPairs M ≤ (M 0 - 1) * 9 := fb_sm_bound (fun k _ => Nat.le_trans (sPrF_le k) h1)
  have h3 : (M 0 - 1) * 9 ≤ 8 * 9 := Nat.mul_le_mul_right 9 (by omega)
  omega
theorem sDb_le {f : Nat → Nat} {m0 B : Nat} (h0 : m0 ≤ B) : ∀ w, (∀ k, k < w → f k ≤ B) → (sDb f m0 w).1 ≤ B
  | 0, _ => h0
  | w + 1, h => by
    unfold sDb
    split
    · exact h w (Nat.lt_succ_self w)
    · exact sDb_le h0 w (fun k hk => h k (by omega))
theorem Wf.kset {M : Nat → Nat} (h : Wf M) {w kd : Nat} (hw : w < 8) (hk : kd ≤ 4) : Wf (nset M (3 + w) kd) := by
  have e : ∀ j, j ≠ 3 + w → nset M (3 + w) kd j = M j := fun j hj => nset_ne M kd hj
  have e0 : nset M (3 + w) kd 0 = M 0 := e 0 (by omega)
  have e19 : nset M (3 + w) kd 19 = M 19 := e 19 (by omega)
  have e32 : nset M (3 + w) kd 32 = M 32 := e 32 (by omega)
  refine ⟨by rw [e0]; exact h.1, by rw [e 1 (by omega)]; exact h.2.1, by rw [e 2 (by omega), e0]; exact h.2.2.1, fun v hv => ⟨?_, ?_⟩, ⟨by rw [e19]; exact h.wc, fun i hi => ?_⟩, ⟨by rw [e32]; exact h.pc, fun i hi => ?_⟩⟩
  · by_cases q : v = w
    · subst q; rw [nset_same]; exact hk
    · rw [e _ (by omega)]; exact h.kd hv
  · rw [e _ (by omega)]; exact h.tn hv
  · rw [e19] at hi
    rw [e (20 + 2 * i) (by omega), e (20 + 2 * i + 1) (by omega), e0]; exact h.wi hi
  · rw [e32] at hi
    rw [e (33 + 3 * i) (by omega), e (33 + 3 * i + 1) (by omega), e (33 + 3 * i + 2) (by omega), e0]; exact h.pi hi
theorem gcd_step {a c : Nat} : Nat.gcd c (a % c) = Nat.gcd a c := by rw [Nat.gcd_comm c (a % c), ← Nat.gcd_rec, Nat.gcd_comm]
theorem sCh_0 (n : Nat) : sCh n 0 = 1 := by cases n <;> rfl
