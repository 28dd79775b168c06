/-! SPEC 13: what the reference's tuning lays: lowest ones, orders, neighbours -/
theorem sLowF_hit {x t : Nat} (h : x.testBit t = true) : ∀ f, sLowF x f t = t
  | 0 => rfl
  | f + 1 => by rw [sLowF, if_pos h]
theorem sLowF_go {x t : Nat} (h : x.testBit t = false) (ht : t < 12) : sLowF x (12 - t) t = sLowF x (12 - (t + 1)) (t + 1) := by
  rw [show 12 - t = (12 - (t + 1)) + 1 by omega, sLowF, if_neg (by rw [h]; decide)]
theorem low_go {x t : Nat} (hx : x < 4096) (h0 : x ≠ 0) (ht : t ≤ 12) (hb : ∀ i, i < t → x.testBit i = false) : t < 12 := by
  rcases Nat.lt_or_ge t 12 with q | q
  · exact q
  · exfalso
    apply h0
    apply Nat.eq_of_testBit_eq
    intro i
    rw [Nat.zero_testBit]
    by_cases z : i < 12
    · exact hb i (by omega)
    · exact Nat.testBit_lt_two_pow (Nat.lt_of_lt_of_le hx (Nat.pow_le_pow_right (n := 2) (i := 12) (by decide) (show 12 ≤ i by omega)))
theorem tb_t {x j : Nat} : x / 2 ^ j % 2 = 1 ↔ x.testBit j = true := by rw [Nat.testBit_eq_decide_div_mod_eq, decide_eq_true_eq]
theorem tb_f {x j : Nat} : ¬ x / 2 ^ j % 2 = 1 ↔ x.testBit j = false := by rw [tb_t, Bool.not_eq_true]
theorem tb_0 {x j : Nat} : x / 2 ^ j % 2 = 0 ↔ x.testBit j = false := by
  rw [← tb_f]
  have h := Nat.mod_lt (x / 2 ^ j) (show 0 < 2 by decide)
  generalize x / 2 ^ j % 2 = z at h
  omega
theorem tb_n0 {x j : Nat} : ¬ x / 2 ^ j % 2 = 0 ↔ x.testBit j = true := by rw [tb_0, Bool.not_eq_false]
theorem nI_andm1 (x : Nat) : nI x &&& (-1) = nI x := by
  apply Int32.toBitVec_inj.mp
  rw [Int32.toBitVec_and, show (-1 : Int32).toBitVec = BitVec.allOnes 32 by decide, BitVec.and_allOnes]
theorem dec_ge {a : Nat} (ha : a < 1000) (h : 0 ≤ nI a - nI 1) : 1 ≤ a := by
  rw [fa_le, pk_sub_toInt (by omega) (by decide)] at h
  have e0 : (0 : Int32).toInt = 0 := rfl
  omega
theorem dec_lt {a : Nat} (ha : a < 1000) (h : ¬ 0 ≤ nI a - nI 1) : a = 0 := by
  rw [fa_le, pk_sub_toInt (by omega) (by decide)] at h
  have e0 : (0 : Int32).toInt = 0 := rfl
  omega
theorem sub_gt {a b : Nat} (ha : a < 1000) (hb : b < 1000) : 0 < nI a - nI b ↔ b < a := by
  rw [fa_lt, pk_sub_toInt (by omega) (by omega)]
  have e0 : (0 : Int32).toInt = 0 := rfl
  omega
theorem sub_eq {a b : Nat} (ha : a < 1000) (hb : b < 1000) : nI a - nI b = 0 ↔ b = a := by
  rw [fa_eq, pk_sub_toInt (by omega) (by omega)]
  have e0 : (0 : Int32).toInt = 0 := rfl
  omega
/-- which wires come in this turn: silk first -/
def sOh (M : Nat → Nat) (S t w : Nat) : Bool := S.testBit w && (decide (M (3 + w) = 3) == decide (t = 0))
def kOr (f : Nat → Bool) (base : Nat) (row : Nat → Nat) : Nat → Nat → Nat
  | 0 => row
  | w + 1 => if f w = true then nset (kOr f base row w) (base + fb_ct f w) w else kOr f base row w
theorem kOr_1 {f : Nat → Bool} {base w : Nat} {row : Nat → Nat} (h : f w = true) : nset (kOr f base row w) (base + fb_ct f w) w = kOr f base row (w + 1) := by rw [kOr, if_pos h]
theorem kOr_0 {f : Nat → Bool} {base w : Nat} {row : Nat → Nat} (h : f w = false) : kOr f base row (w + 1) = kOr f base row w := by rw [kOr, if_neg (by rw [h]; decide)]
def oB (h : Nat → Nat → Bool) (n : Nat) : Nat → Nat
  | 0 => 0
  | t + 1 => oB h n t + fb_ct (h t) n
def oRw (h : Nat → Nat → Bool) (n : Nat) (row : Nat → Nat) : Nat → Nat → Nat
  | 0 => row
  | t + 1 => kOr (h t) (oB h n t) (oRw h n row t) n
theorem kOr_low {f : Nat → Bool} {base : Nat} {row : Nat → Nat} {j : Nat} (hj : j < base) : ∀ n, kOr f base row n j = row j
  | 0 => rfl
  | n + 1 => by
    rw [kOr]
    split
    · rw [nset_ne _ _ (by omega)]; exact kOr_low hj n
    · exact kOr_low hj n
theorem kOr_at {f : Nat → Bool} {base : Nat} {row : Nat → Nat} : ∀ n x, x < n → f x = true → kOr f base row n (base + fb_ct f x) = x
  | 0, x, h, _ => absurd h (Nat.not_lt_zero x)
  | n + 1, x, h, hx => by
    by_cases q : x = n
    · subst q
      rw [← kOr_1 hx, nset_same]
    · have ih := kOr_at (base := base) (row := row) n x (by omega) hx
      cases hn : f n with
      | false => rw [kOr_0 hn]; exact ih
      | true =>
        have h1 := fb_ct_mono f (show x + 1 ≤ n by omega)
        rw [fb_ct1 hx] at h1
        rw [← kOr_1 hn, nset_ne _ _ (by omega)]; exact ih
/-- the order o of m wires is one of S's -/
def sOrd (M : Nat → Nat) (S : Nat) (o : Nat → Nat) (m : Nat) : Prop := m ≤ M 0 - 1 ∧ (∀ i, i < m → o i < M 0 - 1) ∧ (∀ i j, i < m → j < m → o i = o j → i = j) ∧ ∀ w, w < M 0 - 1 → (S.testBit w = true ↔ ∃ i, i < m ∧ o i = w)
theorem oh_not (M : Nat → Nat) (S w : Nat) : ¬ (sOh M S 0 w = true ∧ sOh M S 1 w = true) := by
  unfold sOh
  cases S.testBit w <;> cases decide (M (3 + w) = 3) <;> simp
theorem oh_or (M : Nat → Nat) (S w : Nat) : S.testBit w = true ↔ (sOh M S 0 w = true ∨ sOh M S 1 w = true) := by
  unfold sOh
  cases S.testBit w <;> cases decide (M (3 + w) = 3) <;> simp
theorem oB_2 (h : Nat → Nat → Bool) (n : Nat) : oB h n 2 = fb_ct (h 0) n + fb_ct (h 1) n := by
  show 0 + fb_ct (h 0) n + fb_ct (h 1) n = _
  omega
theorem ord_ok (M : Nat → Nat) (S : Nat) (row : Nat → Nat) : sOrd M S (oRw (sOh M S) (M 0 - 1) row 2) (oB (sOh M S) (M 0 - 1) 2) := by
  have a0 : ∀ x, x < M 0 - 1 → sOh M S 0 x = true → oRw (sOh M S) (M 0 - 1) row 2 (fb_ct (sOh M S 0) x) = x := by
    intro x hx h
    have h1 := fb_ct_mono (sOh M S 0) (show x + 1 ≤ M 0 - 1 by omega)
    rw [fb_ct1 h] at h1
    show kOr (sOh M S 1) (0 + fb_ct (sOh M S 0) (M 0 - 1)) (kOr (sOh M S 0) 0 row (M 0 - 1)) (M 0 - 1) (fb_ct (sOh M S 0) x) = x
    rw [kOr_low (by omega)]
    have h2 := kOr_at (base := 0) (row := row) (M 0 - 1) x hx h
    rw [Nat.zero_add] at h2
    exact h2
  have a1 : ∀ x, x < M 0 - 1 → sOh M S 1 x = true → oRw (sOh M S) (M 0 - 1) row 2 (fb_ct (sOh M S 0) (M 0 - 1) + fb_ct (sOh M S 1) x) = x := by
    intro x hx h
    have h2 := kOr_at (base := 0 + fb_ct (sOh M S 0) (M 0 - 1)) (row := kOr (sOh M S 0) 0 row (M 0 - 1)) (M 0 - 1) x hx h
    rw [Nat.zero_add] at h2
    show kOr (sOh M S 1) (0 + fb_ct (sOh M S 0) (M 0 - 1)) (kOr (sOh M S 0) 0 row (M 0 - 1)) (M 0 - 1) _ = x
    rw [Nat.zero_add]
    exact h2
  have hex : ∀ i, i < oB (sOh M S) (M 0 - 1) 2 → ∃ x, x < M 0 - 1 ∧ S.testBit x = true ∧ oRw (sOh M S) (M 0 - 1) row 2 i = x ∧ ((sOh M S 0 x = true ∧ i = fb_ct (sOh M S 0) x) ∨ (sOh M S 1 x = true ∧ i = fb_ct (sOh M S 0) (M 0 - 1) + fb_ct (sOh M S 1) x)) := by
    intro i hi
    rw [oB_2] at hi
    rcases Nat.lt_or_ge i (fb_ct (sOh M S 0) (M 0 - 1)) with q | q
    · obtain ⟨x, h1, h2, h3⟩ := fb_ct_kth q
      exact ⟨x, h1, (oh_or M S x).mpr (Or.inl h2), by rw [← h3]; exact a0 x h1 h2, Or.inl ⟨h2, h3.symm⟩⟩
    · obtain ⟨x, h1, h2, h3⟩ := fb_ct_kth (p := sOh M S 1) (n := M 0 - 1) (k := i - fb_ct (sOh M S 0) (M 0 - 1)) (by omega)
      have e : i = fb_ct (sOh M S 0) (M 0 - 1) + fb_ct (sOh M S 1) x := by omega
      exact ⟨x, h1, (oh_or M S x).mpr (Or.inr h2), by rw [e]; exact a1 x h1 h2, Or.inr ⟨h2, e⟩⟩
  refine ⟨?_, fun i hi => ?_, fun i j hi hj e => ?_, fun w hw => ⟨fun h => ?_, fun ⟨i, h1, h2⟩ => ?_⟩⟩
  · rw [oB_2, ← fb_ct_or (fun k _ => oh_not M S k)]
    exact fb_ct_le _ _
  · obtain ⟨x, h1, _, h3, _⟩ := hex i hi
    rw [h3]; exact h1
  · obtain ⟨x, h1, _, h3, h4⟩ := hex i hi
    obtain ⟨y, g1, _, g3, g4⟩ := hex j hj
    have exy : x = y := by rw [← h3, ← g3]; exact e
    subst exy
    rcases h4 with q | q <;> rcases g4 with z | z
    · rw [q.2, z.2]
    · exact absurd ⟨q.1, z.1⟩ (oh_not M S x)
    · exact absurd ⟨z.1, q.1⟩ (oh_not M S x)
    · rw [q.2, z.2]
  · rcases (oh_or M S w).mp h with q | q
    · refine ⟨fb_ct (sOh M S 0) w, ?_, a0 w hw q⟩
      have h1 := fb_ct_mono (sOh M S 0) (show w + 1 ≤ M 0 - 1 by omega)
      rw [fb_ct1 q] at h1
      rw [oB_2]; omega
    · refine ⟨fb_ct (sOh M S 0) (M 0 - 1) + fb_ct (sOh M S 1) w, ?_, a1 w hw q⟩
      have h1 := fb_ct_mono (sOh M S 1) (show w + 1 ≤ M 0 - 1 by omega)
      rw [fb_ct1 q] at h1
      rw [oB_2]; omega
  · obtain ⟨x, _, g2, g3, _⟩ := hex i h1
    rw [← h2, g3]; exact g2
theorem oB_lt {M : Nat → Nat} {S t w : Nat} (ht : t < 2) (hw : w < M 0 - 1) (h : sOh M S t w = true) : oB (sOh M S) (M 0 - 1) t + fb_ct (sOh M S t) w < M 0 - 1 := by
  have h2 := (ord_ok M S (fun _ => 0)).1
  rw [oB_2] at h2
  have h1 := fb_ct_mono (sOh M S t) (show w + 1 ≤ M 0 - 1 by omega)
  rw [fb_ct1 h] at h1
  rcases (show t = 0 ∨ t = 1 by omega) with q | q
  · subst q; show 0 + _ < _; omega
  · subst q; show 0 + fb_ct (sOh M S 0) (M 0 - 1) + _ < _; omega
theorem oB_le {M : Nat → Nat} {S t w : Nat} (ht : t < 2) (hw : w ≤ M 0 - 1) : oB (sOh M S) (M 0 - 1) t + fb_ct (sOh M S t) w ≤ M 0 - 1 := by
  have h2 := (ord_ok M S (fun _ => 0)).1
  rw [oB_2] at h2
  have h1 := fb_ct_mono (sOh M S t) hw
  rcases (show t = 0 ∨ t = 1 by omega) with q | q
  · subst q; show 0 + _ ≤ _; omega
  · subst q; show 0 + fb_ct (sOh M S 0) (M 0 - 1) + _ ≤ _; omega
/-- the neighbours of v -/
def sNe (M : Nat → Nat) (v n : Nat) : Nat := sOr 0 (fun w => if sNr M v w = true then 2 ^ w else 0) n
theorem sNe_bit (M : Nat → Nat) (v n i : Nat) : (sNe M v n).testBit i = (decide (i < n) && sNr M v i) := set_bit (f := fun w => sNr M v w) n i
theorem sNe_lt {M : Nat → Nat} {v n : Nat} (h : n ≤ 8) : sNe M v n < 256 := set_lt (f := fun w => sNr M v w) (m := 8) h
theorem sNe_s (M : Nat → Nat) (v n : Nat) : sNe M v (n + 1) = sNe M v n ||| (if sNr M v n = true then 2 ^ n else 0) := rfl
theorem ccpy_0 (f g : Nat → Nat) : ccpy f g 0 = f := funext fun j => if_neg (Nat.not_lt_zero j)
theorem ccpy_s (f g : Nat → Nat) (n : Nat) : nset (ccpy f g n) n (g n) = ccpy f g (n + 1) := by
  funext j
  unfold nset ccpy
  by_cases h : j = n
  · subst h; rw [if_pos rfl, if_pos (Nat.lt_succ_self j)]
  · rw [if_neg h]
    by_cases h2 : j < n
    · rw [if_pos h2, if_pos (by omega)]
    · rw [if_neg h2, if_neg (by omega)]
def sAv (x kv kw w t : Nat) : Nat := if x.testBit w then sAlR kv kw t 12 else 0
/-- the wires that are not of S -/
def sT0 (n S : Nat) : Nat := (2 ^ n - 1) ^^^ ((2 ^ n - 1) &&& S)
theorem sT0_bit (n S i : Nat) : (sT0 n S).testBit i = (decide (i < n) && !S.testBit i) := by unfold sT0; rw [andnot_bit, Nat.testBit_two_pow_sub_one]
theorem sT0_lt {n S : Nat} (h : n ≤ 8) : sT0 n S < 256 := by
  have h1 := andnot_le (2 ^ n - 1) S
  have h2 : 2 ^ n ≤ 2 ^ 8 := Nat.pow_le_pow_right (by decide) h
  have h3 : 0 < 2 ^ n := Nat.two_pow_pos _
  unfold sT0
  omega
theorem can_no {M : Nat → Nat} (hf : Wf M) {S w : Nat} {tn : Nat → Nat} (htn : ∀ v, v < M 0 - 1 → tn v = M (11 + v)) (hw : w < M 0 - 1) (hb : (sT0 (M 0 - 1) S).testBit w = true) (h : (sMayF M tn (sT0 (M 0 - 1) S) w (M 0 - 1)).testBit (M (11 + w)) = false) : sCanB M S = false := by
  rw [sCanB_f]
  rintro ⟨t, h1, h2, h3⟩
  have n9 := hf.n9
  have hS : ∀ v, (sT0 (M 0 - 1) S).testBit v = true → S.testBit v = false := by
    intro v q
    rw [sT0_bit, Bool.and_eq_true] at q
    simpa using q.2
  have q : (sMayF M tn (sT0 (M 0 - 1) S) w (M 0 - 1)).testBit (M (11 + w)) = true := by
    refine (sMayF_bit _ _ _ _ _ _).mpr ⟨by have := hf.tn (w := w) (by omega); omega, fun v hv q1 q2 => ?_⟩
    rw [htn v hv, ← h2 v hv (hS v q1), ← h2 w hw (hS w hb)]
    exact h3 v w hv hw q2
  rw [q] at h
  cases h
theorem can_cons {M : Nat → Nat} (hf : Wf M) {S : Nat} {tn : Nat → Nat} (htn : ∀ v, v < M 0 - 1 → tn v = M (11 + v)) (h : ∀ w, w < M 0 - 1 → (sT0 (M 0 - 1) S).testBit w = true → (sMayF M tn (sT0 (M 0 - 1) S) w (M 0 - 1)).testBit (M (11 + w)) = true) : oCons M (sT0 (M 0 - 1) S) tn := by
  have n9 := hf.n9
  refine ⟨fun w hw _ => ?_, fun v w hv hw h1 h2 h3 => ?_⟩
  · rw [htn w hw]; have := hf.tn (w := w) (by omega); omega
  · have q := ((sMayF_bit _ _ _ _ _ _).mp (h w hw h2)).2 v hv h1 h3
    rw [htn w hw]; exact q
theorem rn_pos {M o : Nat → Nat} {m g k T : Nat} {tn lf : Nat → Nat} {b : Bool} (h : rn M o m g k T tn lf = some b) : ∃ gg, g = gg + 1 := by
  cases g with
  | zero => rw [rn] at h; cases h
  | succ n => exact ⟨n, rfl⟩
theorem rn_bk {M o : Nat → Nat} {m g k T : Nat} {tn lf : Nat → Nat} (h : k < m) (h1 : 1 ≤ k) (h0 : lf k = 0) : rn M o m (g + 1) k T tn lf = rn M o m g (k - 1) (T ^^^ (T &&& 2 ^ o (k - 1))) tn lf := by rw [rn, if_neg (by omega), if_pos h0, if_neg (by omega)]
theorem tn_up {tn : Nat → Nat} {n T x y : Nat} (hy : y < 12) (h : ∀ v, v < n → T.testBit v = true → tn v < 12) : ∀ v, v < n → (T ||| 2 ^ x).testBit v = true → nset tn x y v < 12 := by
  intro v hv hb
  by_cases q : v = x
  · subst q; rw [nset_same]; exact hy
  · rw [nset_ne _ _ q]
    rw [Nat.testBit_or, p2_bit, decide_eq_false (fun z => q z.symm), Bool.or_false] at hb
    exact h v hv hb
theorem tn_down {tn : Nat → Nat} {n T x : Nat} (h : ∀ v, v < n → T.testBit v = true → tn v < 12) : ∀ v, v < n → (T ^^^ (T &&& 2 ^ x)).testBit v = true → tn v < 12 := by
  intro v hv hb
  rw [andnot_bit, Bool.and_eq_true] at hb
  exact h v hv hb.1
theorem or_p2 {T x : Nat} (hT : T < 256) (hx : x < 8) : T ||| 2 ^ x < 256 := Nat.or_lt_two_pow (n := 8) hT (Nat.pow_lt_pow_right (a := 2) (n := 8) (by decide) hx)
theorem lf_up {lf : Nat → Nat} {k m x y : Nat} (h : ∀ i, i ≤ k → i < m → lf i < 4096) (hx : x < 4096) (hy : y < 4096) : ∀ i, i ≤ k + 1 → i < m → nset (nset lf k x) (k + 1) y i < 4096 := by
  intro i h1 h2
  by_cases q : i = k + 1
  · subst q; rw [nset_same]; exact hy
  · rw [nset_ne _ _ q]
    by_cases z : i = k
    · subst z; rw [nset_same]; exact hx
    · rw [nset_ne _ _ z]; exact h i (by omega) h2
theorem lf_end {lf : Nat → Nat} {k m x : Nat} (hk : ¬ k + 1 < m) (h : ∀ i, i ≤ k → i < m → lf i < 4096) (hx : x < 4096) : ∀ i, i ≤ k + 1 → i < m → nset lf k x i < 4096 := by
  intro i h1 h2
  by_cases z : i = k
  · subst z; rw [nset_same]; exact hx
  · rw [nset_ne _ _ z]; exact h i (by omega) h2
