/-! SPEC 9: the class's own words -/
theorem inRow_1 {x : Int32} {mm : Nat} (h1 : 1 ≤ mm) (h2 : mm < 2147483648) (c1 : ¬ x < 0) (c6 : ¬ nI mm ≤ x) : nI 1 = bI (wIn x 0 (mm - 1)) := by
  apply bI_1
  unfold wIn
  rw [fa_lt] at c1
  rw [fa_le, nI_toInt h2] at c6
  have e0 : (0 : Int32).toInt = 0 := rfl
  rw [decide_eq_true (show nI 0 ≤ x by rw [fa_le, nI_toInt (by omega)]; omega), decide_eq_true (show x ≤ nI (mm - 1) by rw [fa_le, nI_toInt (by omega)]; omega)]
  rfl
theorem inRow_0 {x : Int32} {mm : Nat} (h1 : 1 ≤ mm) (h2 : mm < 2147483648) (c : x < 0 ∨ nI mm ≤ x) : nI 0 = bI (wIn x 0 (mm - 1)) := by
  apply bI_0
  unfold wIn
  have e0 : (0 : Int32).toInt = 0 := rfl
  rcases c with c | c
  · rw [decide_eq_false (show ¬ nI 0 ≤ x by rw [fa_le, nI_toInt (by omega)]; rw [fa_lt] at c; omega)]; rfl
  · rw [decide_eq_false (show ¬ x ≤ nI (mm - 1) by rw [fa_le, nI_toInt (by omega)]; rw [fa_le, nI_toInt h2] at c; omega), Bool.and_false]
theorem sCh_row : ∀ d j, d + j < 10 → sCh (d + j) j * (d + (j + 1)) / (j + 1) = sCh (d + (j + 1)) (j + 1) := by
  have h : ∀ d, d < 10 → ∀ j, j < 10 → d + j < 10 → sCh (d + j) j * (d + (j + 1)) / (j + 1) = sCh (d + (j + 1)) (j + 1) := by decide
  exact fun d j q => h d (by omega) j (by omega) q
/-- the posts at which a wire is heard if it is so loud -/
def sSpan (n w l : Nat) : Nat := 2 ^ (min (n - 1) (w + l) + 1) - 2 ^ (w + 1 - l)
theorem span_max {w s : Nat} (hw : w < 100) (hs : s < 100) : (if nI 0 < nI w - nI s + nI 1 then nI w - nI s + nI 1 else nI 0) = nI (w + 1 - s) := by
  have e : (nI w - nI s + nI 1).toInt = (w : Int) - s + 1 := by
    have h1 := pk_sub_toInt (a := w) (b := s) (by omega) (by omega)
    have h2 : (nI 1).toInt = 1 := nI_toInt (by decide)
    rw [fb_addI (by rw [h1, h2]; omega) (by rw [h1, h2]; omega), h1, h2]
  have e0 : (nI 0).toInt = 0 := nI_toInt (by decide)
  by_cases h : s ≤ w
  · rw [if_pos (by rw [fa_lt, e, e0]; omega)]
    apply (fa_eq _ _).mpr
    rw [e, nI_toInt (by omega)]; omega
  · rw [if_neg (by rw [fa_lt, e, e0]; omega), show w + 1 - s = 0 by omega]
theorem span_min {x y : Nat} (hx : x < 2147483648) (hy : y < 2147483648) : (if nI y < nI x then nI y else nI x) = nI (min x y) := by
  by_cases h : y < x
  · rw [if_pos ((nI_ltI hy hx).mpr h), Nat.min_eq_right (by omega)]
  · rw [if_neg (fun q => h ((nI_ltI hy hx).mp q)), Nat.min_eq_left (by omega)]
