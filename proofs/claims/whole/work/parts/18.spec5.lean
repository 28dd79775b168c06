/-! SPEC 5: tokens of the text T of L bytes -/
def kTok (x : Nat) : Nat := if 97 ≤ x ∧ x ≤ 122 then 1 else if 48 ≤ x ∧ x ≤ 57 then 2 else if x = 59 then 3 else 4
/-- the first place from a on that is no blank -/
def sAt (T : Nat → Nat) (L a : Nat) : Nat := if a < L ∧ T a = 32 then sAt T L (a + 1) else a
termination_by L - a
decreasing_by omega
/-- the first place from e on that isn't of this kind -/
def sRun (T : Nat → Nat) (L kd e : Nat) : Nat := if e < L ∧ kTok (T e) = kd then sRun T L kd (e + 1) else e
termination_by L - e
decreasing_by omega
def sTk (T : Nat → Nat) (L p : Nat) : Nat := if p < L then kTok (T p) else 0
def sEd (T : Nat → Nat) (L p : Nat) : Nat := if p < L then (if kTok (T p) < 3 then sRun T L (kTok (T p)) (p + 1) else p + 1) else p
def sKd (T : Nat → Nat) (L p : Nat) : Nat := if sTk T L p = 2 ∧ 2 < sEd T L p - p then 4 else sTk T L p
def sVp (T : Nat → Nat) (p : Nat) : Nat → Nat
  | 0 => 0
  | q + 1 => 10 * sVp T p q + T (p + q) - 48
def sVl (T : Nat → Nat) (L p : Nat) : Nat := if sTk T L p = 2 then sVp T p (min 2 (sEd T L p - p)) else 0
def sNx (T : Nat → Nat) (L p : Nat) : Nat := sAt T L (sEd T L p)
theorem kTok_in (x : Nat) : 1 ≤ kTok x ∧ kTok x ≤ 4 := by unfold kTok; split; omega; split; omega; split <;> omega
theorem kTok_1 (x : Nat) : kTok x = 1 ↔ 97 ≤ x ∧ x ≤ 122 := by
  unfold kTok; split
  · next h => exact ⟨fun _ => h, fun _ => rfl⟩
  · next h => split; exact ⟨fun q => by omega, fun q => absurd q h⟩; split <;> exact ⟨fun q => by omega, fun q => absurd q h⟩
theorem kTok_2 (x : Nat) : kTok x = 2 ↔ 48 ≤ x ∧ x ≤ 57 := by
  unfold kTok; split
  · exact ⟨fun q => by omega, fun q => by omega⟩
  · split
    · next h => exact ⟨fun _ => h, fun _ => rfl⟩
    · next h => split <;> exact ⟨fun q => by omega, fun q => absurd q h⟩
theorem sAt_s {T : Nat → Nat} {L a : Nat} (h1 : a < L) (h2 : T a = 32) : sAt T L a = sAt T L (a + 1) := by rw [sAt, if_pos ⟨h1, h2⟩]
theorem sAt_e {T : Nat → Nat} {L a : Nat} (h : ¬ (a < L ∧ T a = 32)) : sAt T L a = a := by rw [sAt, if_neg h]
theorem sAt_le {T : Nat → Nat} {L : Nat} : ∀ (n a : Nat), L - a ≤ n → a ≤ L → a ≤ sAt T L a ∧ sAt T L a ≤ L
  | 0, a, h, ha => by rw [sAt_e (by omega)]; omega
  | n + 1, a, h, ha => by
    by_cases q : a < L ∧ T a = 32
    · rw [sAt_s q.1 q.2]; have := sAt_le (T := T) (L := L) n (a + 1) (by omega) (by omega); omega
    · rw [sAt_e q]; omega
theorem sRun_s {T : Nat → Nat} {L kd e : Nat} (h1 : e < L) (h2 : kTok (T e) = kd) : sRun T L kd e = sRun T L kd (e + 1) := by rw [sRun, if_pos ⟨h1, h2⟩]
theorem sRun_e {T : Nat → Nat} {L kd e : Nat} (h : ¬ (e < L ∧ kTok (T e) = kd)) : sRun T L kd e = e := by rw [sRun, if_neg h]
theorem sRun_le {T : Nat → Nat} {L kd : Nat} : ∀ (n a : Nat), L - a ≤ n → a ≤ L → (a ≤ sRun T L kd a ∧ sRun T L kd a ≤ L) ∧ ∀ j, a ≤ j → j < sRun T L kd a → kTok (T j) = kd
  | 0, a, h, ha => by rw [sRun_e (by omega)]; exact ⟨by omega, fun j h1 h2 => by omega⟩
  | n + 1, a, h, ha => by
    by_cases q : a < L ∧ kTok (T a) = kd
    · rw [sRun_s q.1 q.2]
      have := sRun_le (T := T) (L := L) (kd := kd) n (a + 1) (by omega) (by omega)
      refine ⟨by omega, fun j h1 h2 => ?_⟩
      by_cases e : j = a
      · rw [e]; exact q.2
      · exact this.2 j (by omega) h2
    · rw [sRun_e q]; exact ⟨by omega, fun j h1 h2 => by omega⟩
theorem sEd_in {T : Nat → Nat} {L p : Nat} (hp : p < L) : p < sEd T L p ∧ sEd T L p ≤ L := by
  unfold sEd
  rw [if_pos hp]
  split
  · have := (sRun_le (T := T) (L := L) (kd := kTok (T p)) L (p + 1) (by omega) (by omega)).1; omega
  · omega
theorem sEd_end {T : Nat → Nat} {L p : Nat} (hp : ¬ p < L) : sEd T L p = p := by unfold sEd; rw [if_neg hp]
theorem sEd_le {T : Nat → Nat} {L p : Nat} (hp : p ≤ L) : p ≤ sEd T L p ∧ sEd T L p ≤ L := by
  by_cases h : p < L
  · have := sEd_in (T := T) h; omega
  · rw [sEd_end h]; omega
theorem sEd_dig {T : Nat → Nat} {L p j : Nat} (hk : sTk T L p = 2) (h1 : p ≤ j) (h2 : j < sEd T L p) : 48 ≤ T j ∧ T j ≤ 57 := by
  unfold sTk at hk
  by_cases hp : p < L
  · rw [if_pos hp] at hk
    unfold sEd at h2
    rw [if_pos hp, if_pos (by omega), hk] at h2
    by_cases e : j = p
    · rw [e]; exact (kTok_2 _).mp hk
    · exact (kTok_2 _).mp ((sRun_le (T := T) (L := L) (kd := 2) L (p + 1) (by omega) (by omega)).2 j (by omega) h2)
  · rw [if_neg hp] at hk; omega
theorem sNx_in {T : Nat → Nat} {L p : Nat} (hp : p ≤ L) : p ≤ sNx T L p ∧ sNx T L p ≤ L ∧ (p < L → p < sNx T L p) := by
  have h1 := sEd_le (T := T) hp
  have h2 := sAt_le (T := T) (L := L) L (sEd T L p) (by omega) h1.2
  refine ⟨by unfold sNx; omega, h2.2, fun h => ?_⟩
  have := sEd_in (T := T) h
  unfold sNx; omega
theorem sVp_lt {T : Nat → Nat} {p : Nat} (h : ∀ j, T j < 256) : ∀ q, q ≤ 2 → sVp T p q < 3000
  | 0, _ => by simp only [sVp]; omega
  | 1, _ => by have := h (p + 0); simp only [sVp]; omega
  | 2, _ => by have := h (p + 0); have := h (p + 1); simp only [sVp]; omega
  | q + 3, h => by omega
theorem sVl_lt {T : Nat → Nat} {L p : Nat} (h : ∀ j, T j < 256) : sVl T L p < 3000 := by
  unfold sVl
  split
  · exact sVp_lt h _ (Nat.min_le_left _ _)
  · omega
theorem sTk_le (T : Nat → Nat) (L p : Nat) : sTk T L p ≤ 4 := by
  unfold sTk; split
  · exact (kTok_in _).2
  · omega
theorem sKd_le (T : Nat → Nat) (L p : Nat) : sKd T L p ≤ 4 := by
  unfold sKd; split
  · omega
  · exact sTk_le T L p
theorem sKd_2 {T : Nat → Nat} {L p : Nat} (h : sKd T L p = 2) : sTk T L p = 2 ∧ p < L := by
  unfold sKd at h
  split at h
  · omega
  · refine ⟨h, ?_⟩
    unfold sTk at h
    split at h
    · assumption
    · omega
theorem sKd_pos {T : Nat → Nat} {L p : Nat} (h : ¬ sKd T L p = 0) : p < L := by
  by_cases q : p < L
  · exact q
  · exfalso; apply h; unfold sKd sTk; rw [if_neg q]; simp
theorem sKd_0 {T : Nat → Nat} {L p : Nat} (h : p < L) : 0 < sKd T L p := by
  unfold sKd sTk; rw [if_pos h]; have := kTok_in (T p); split <;> omega
