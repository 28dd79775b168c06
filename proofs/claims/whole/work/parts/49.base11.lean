/-! BASE 11: words; the items of a text -/
theorem sWd_cong {T : Nat → Nat} {tk lg p : Nat} {cs cs' : Nat → Nat} {n : Nat} (h : ∀ j, j < n → cs j = cs' j) : sWd T tk lg p cs n = sWd T tk lg p cs' n := by
  unfold sWd
  rw [sAll_cong n (fun j hj => by rw [h j hj])]
theorem wd_is0 {T : Nat → Nat} {tk lg p : Nat} : sWd T tk lg p (wdN 0) (wdLen.getD 0 0) = sWd T tk lg p (c5 112 111 115 116 115) 5 := sWd_cong (n := 5) (by decide)
theorem wd_is1 {T : Nat → Nat} {tk lg p : Nat} : sWd T tk lg p (wdN 1) (wdLen.getD 1 0) = sWd T tk lg p (c5 119 105 114 101 0) 4 := sWd_cong (n := 4) (by decide)
theorem wd_is2 {T : Nat → Nat} {tk lg p : Nat} : sWd T tk lg p (wdN 2) (wdLen.getD 2 0) = sWd T tk lg p (c5 102 114 111 115 116) 5 := sWd_cong (n := 5) (by decide)
theorem wd_is3 {T : Nat → Nat} {tk lg p : Nat} : sWd T tk lg p (wdN 3) (wdLen.getD 3 0) = sWd T tk lg p (c5 103 117 97 114 100) 5 := sWd_cong (n := 5) (by decide)
theorem wd_is4 {T : Nat → Nat} {tk lg p : Nat} : sWd T tk lg p (wdN 4) (wdLen.getD 4 0) = sWd T tk lg p (c5 119 105 110 100 0) 4 := sWd_cong (n := 4) (by decide)
theorem wd_is5 {T : Nat → Nat} {tk lg p : Nat} : sWd T tk lg p (wdN 5) (wdLen.getD 5 0) = sWd T tk lg p (c5 112 97 115 115 0) 4 := sWd_cong (n := 4) (by decide)
theorem le_lt0 {x : Int32} (h : 0 ≤ x) : ¬ x < 0 := fun q => by rw [fa_le] at h; rw [fa_lt] at q; omega
theorem nle_lt0 {x : Int32} (h : ¬ 0 ≤ x) : x < 0 := by rw [fa_le] at h; rw [fa_lt]; omega
theorem kNum_no {T : Nat → Nat} {L p lo hi : Nat} (hT : ∀ j, T j < 256) (h : oI (kNum T L p lo hi) < 0) : ¬ sNum T L p lo hi := by
  have := sVl_lt (T := T) (L := L) (p := p) hT
  rcases kNum_lt h with q | q
  · exact q
  · exact absurd (by omega) q
theorem rdl_end {T : Nat → Nat} {L fu p it : Nat} {M : Nat → Nat} (h0 : sKd T L p = 0) (hfu : 0 < fu) : sRdL T L fu p M it = (true, it, M) := by
  obtain ⟨g, rfl⟩ : ∃ g, fu = g + 1 := ⟨fu - 1, by omega⟩
  rw [sRdL, if_pos h0]
theorem rdl_go {T : Nat → Nat} {L fu p it : Nat} {M : Nat → Nat} (h0 : ¬ sKd T L p = 0) (hk : kOK T L (sIt T L p M) = true) (hfu : 0 < fu) : sRdL T L fu p M it = sRdL T L (fu - 1) (sNx T L (sIt T L p M).2.1) (sIt T L p M).2.2 (it + 1) := by
  obtain ⟨g, rfl⟩ : ∃ g, fu = g + 1 := ⟨fu - 1, by omega⟩
  unfold kOK at hk
  rw [Bool.and_eq_true, decide_eq_true_eq] at hk
  rw [sRdL, if_neg h0, if_pos hk]
  rfl
theorem rdl_no {T : Nat → Nat} {L fu p it : Nat} {M : Nat → Nat} (h0 : ¬ sKd T L p = 0) (hk : kOK T L (sIt T L p M) = false) (hfu : 0 < fu) : sRdL T L fu p M it = (false, (sIt T L p M).2.1, M) := by
  obtain ⟨g, rfl⟩ : ∃ g, fu = g + 1 := ⟨fu - 1, by omega⟩
  rw [sRdL, if_neg h0, if_neg (fun q => by unfold kOK at hk; rw [q.1, decide_eq_true q.2] at hk; cases hk)]
theorem kOK_t {T : Nat → Nat} {L : Nat} {x : Bool × Nat × (Nat → Nat)} (h : kOK T L x = true) : x.1 = true ∧ sKd T L x.2.1 = 3 := by
  unfold kOK at h
  rw [Bool.and_eq_true, decide_eq_true_eq] at h
  exact h
theorem sR1_lt {T : Nat → Nat} {L p : Nat} (h : (sR1 T L p).1 = true) : (sR1 T L p).2.1 < L := by
  unfold sR1 at h ⊢
  by_cases a : sW5 T L p 112 111 115 116 115 = true
  · rw [if_pos a] at h ⊢
    by_cases b : sNum T L (sNx T L p) 2 9
    · rw [if_pos b] at h ⊢
      have h2 : sKd T L (sNx T L (sNx T L p)) = 3 := of_decide_eq_true h
      exact sKd_pos (by rw [h2]; decide)
    · rw [if_neg b] at h; cases h
  · rw [if_neg a] at h; cases h
theorem neg10 {q : Nat} (h : q ≤ 1000) : (-10 : Int32) - nI q < 0 := by
  have e : ((-10 : Int32) - nI q).toInt = -10 - (q : Int) := by
    rw [Int32.sub_eq_add_neg, ]
    have h1 : (-10 : Int32).toInt = -10 := by decide
    have h2 : (nI q).toInt = q := nI_toInt (by omega)
    have h3 : (-nI q).toInt = -(q : Int) := by
      rw [Int32.toInt_neg, h2]
      rw [Int.bmod_eq_of_le] <;> omega
    rw [fb_addI (by rw [h1, h3]; omega) (by rw [h1, h3]; omega), h1, h3]
    omega
  rw [fa_lt, e]
  have : (0 : Int32).toInt = 0 := rfl
  omega
