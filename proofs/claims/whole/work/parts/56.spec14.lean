/-! SPEC 14: what layAlike lays, wire by wire -/
def sAkG (M A : Nat → Nat) : Prop := ∀ v w t, v < M 0 - 1 → w < M 0 - 1 → t < 12 → A ((8 * v + w) * 12 + t) = sAl M v w t
def sAkU (M A : Nat → Nat) (v w : Nat) : Prop := ∀ v2 w2 t, (v2 < v ∨ (v2 = v ∧ w2 < w)) → w2 < M 0 - 1 → t < 12 → A ((8 * v2 + w2) * 12 + t) = sAl M v2 w2 t
theorem sAkU_0 (M A : Nat → Nat) : sAkU M A 0 0 := fun v2 w2 t h => by omega
theorem sAkU_end {M A : Nat → Nat} (h : sAkU M A (M 0 - 1) 0) : sAkG M A := fun v w t hv hw ht => h v w t (Or.inl hv) hw ht
theorem sAkU_row {M A : Nat → Nat} {v : Nat} (h : sAkU M A v (M 0 - 1)) : sAkU M A (v + 1) 0 := fun v2 w2 t hv hw ht => h v2 w2 t (by omega) hw ht
theorem sAv_al {M : Nat → Nat} {v w t : Nat} (hw : w < M 0 - 1) : sAv (sNe M v (M 0 - 1)) (M (3 + v)) (M (3 + w)) w t = sAl M v w t := by
  unfold sAv sAl
  rw [sNe_bit, decide_eq_true hw, Bool.true_and]
theorem sAkU_up {M A : Nat → Nat} {v w x : Nat} (hf : Wf M) (hv : v < M 0 - 1) (hw : w < M 0 - 1) (hx : x = sNe M v (M 0 - 1)) (h : sAkU M A v w) : sAkU M (cput A (sAv x (M (3 + v)) (M (3 + w)) w) ((8 * v + w) * 12) 12) v (w + 1) := by
  subst hx
  have n9 := hf.n9
  intro v2 w2 t hv2 hw2 ht
  unfold cput
  by_cases q : v2 = v ∧ w2 = w
  · obtain ⟨rfl, rfl⟩ := q
    rw [if_pos (by omega), show (8 * v2 + w2) * 12 + t - (8 * v2 + w2) * 12 = t by omega]
    exact sAv_al hw
  · rw [if_neg (by omega)]
    exact h v2 w2 t (by omega) hw2 ht
theorem ne_at {M old : Nat → Nat} {v : Nat} (hv : v < M 0 - 1) : ccpy old (fun z_ => sNe M z_ (M 0 - 1)) (M 0 - 1) v = sNe M v (M 0 - 1) := if_pos hv
theorem pow8 {M : Nat → Nat} (hf : Wf M) : 2 ^ (M 0 - 1) ≤ 256 := by
  have n9 := hf.n9
  exact Nat.pow_le_pow_right (n := 2) (j := 8) (by decide) (by omega)
theorem sT0_w {M : Nat → Nat} {S : Nat} : ∀ w, w < M 0 - 1 → ((sT0 (M 0 - 1) S).testBit w = true ↔ S.testBit w = false) := by
  intro w hw
  rw [sT0_bit, decide_eq_true hw, Bool.true_and]
  cases S.testBit w <;> simp
theorem or_if {a b c : Nat} {q : Bool} (h : c = if q = true then b else 0) : a ||| c = a ||| (if q = true then b else 0) := by rw [h]
