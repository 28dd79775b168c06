/-! SPEC 10: tuning anew: what a set of wires can do; the reference's search -/
/-- another wire that some post hears too -/
def sNr (M : Nat → Nat) (v w : Nat) : Bool := !decide (w = v) && sTog M v w
/-- v of tune t and w of tune u sound alike by some frost -/
def sAk (M : Nat → Nat) (v w t u : Nat) : Bool := sAny (fun f => decide (sNoteBy (M (3 + v)) t f = sNoteBy (M (3 + w)) u f)) 6
def sTun (M t : Nat → Nat) : Prop := ∀ v w, v < M 0 - 1 → w < M 0 - 1 → sNr M v w = true → sAk M v w (t v) (t w) = false
/-- the wires of S tuned anew, the others as they are: none clashes by any frost -/
def sCan (M : Nat → Nat) (S : Nat) : Prop := ∃ t : Nat → Nat, (∀ w, w < M 0 - 1 → t w < 12) ∧ (∀ w, w < M 0 - 1 → S.testBit w = false → t w = M (11 + w)) ∧ sTun M t
noncomputable def sCanB (M : Nat → Nat) (S : Nat) : Bool := @decide (sCan M S) (Classical.propDecidable _)
theorem sCanB_t {M : Nat → Nat} {S : Nat} : sCanB M S = true ↔ sCan M S := by unfold sCanB; exact @decide_eq_true_iff (sCan M S) (Classical.propDecidable _)
theorem sCanB_f {M : Nat → Nat} {S : Nat} : sCanB M S = false ↔ ¬ sCan M S := by rw [← sCanB_t, Bool.not_eq_true]
theorem sAny_t {f : Nat → Bool} : ∀ {n : Nat}, sAny f n = true ↔ ∃ i, i < n ∧ f i = true
  | 0 => ⟨fun h => (by cases h), fun ⟨i, h, _⟩ => absurd h (Nat.not_lt_zero i)⟩
  | n + 1 => by
    rw [sAny, Bool.or_eq_true, sAny_t (n := n)]
    constructor
    · rintro (⟨i, h1, h2⟩ | h)
      · exact ⟨i, by omega, h2⟩
      · exact ⟨n, by omega, h⟩
    · rintro ⟨i, h1, h2⟩
      by_cases q : i = n
      · subst q; exact Or.inr h2
      · exact Or.inl ⟨i, by omega, h2⟩
theorem sAll_t {f : Nat → Bool} : ∀ {n : Nat}, sAll f n = true ↔ ∀ i, i < n → f i = true
  | 0 => ⟨fun _ i h => absurd h (Nat.not_lt_zero i), fun _ => rfl⟩
  | n + 1 => by
    rw [sAll, Bool.and_eq_true, sAll_t (n := n)]
    constructor
    · rintro ⟨h1, h2⟩ i hi
      by_cases q : i = n
      · subst q; exact h2
      · exact h1 i (by omega)
    · intro h
      exact ⟨fun i hi => h i (by omega), h n (by omega)⟩
theorem sAny_cong {f g : Nat → Bool} {n : Nat} (h : ∀ i, i < n → f i = g i) : sAny f n = sAny g n := by
  induction n with
  | zero => rfl
  | succ n ih => rw [sAny, sAny, ih (fun i hi => h i (by omega)), h n (by omega)]
theorem sTog_symm (M : Nat → Nat) (v w : Nat) : sTog M v w = sTog M w v := by
  unfold sTog
  rw [show sAny (sTgF M v w) (M 0) = sAny (sTgF M w v) (M 0) from sAny_cong (fun i _ => by unfold sTgF; exact Bool.and_comm _ _)]
  cases sAny (sTgF M w v) (M 0) <;> cases decide (M (3 + v) = 4) <;> cases decide (M (3 + w) = 4) <;> rfl
theorem sNr_symm (M : Nat → Nat) (v w : Nat) : sNr M v w = sNr M w v := by
  unfold sNr
  rw [sTog_symm M v w]
  congr 2
  exact decide_eq_decide.mpr ⟨fun h => h.symm, fun h => h.symm⟩
theorem sNr_ne {M : Nat → Nat} {v w : Nat} (h : sNr M v w = true) : w ≠ v := by
  unfold sNr at h
  intro q
  subst q
  simp at h
theorem sAk_symm (M : Nat → Nat) (v w t u : Nat) : sAk M v w t u = sAk M w v u t := by
  unfold sAk
  exact sAny_cong (fun i _ => decide_eq_decide.mpr ⟨fun h => h.symm, fun h => h.symm⟩)
theorem sOr_bit (a : Nat) (f : Nat → Nat) (i : Nat) : ∀ n, (sOr a f n).testBit i = (a.testBit i || sAny (fun j => (f j).testBit i) n)
  | 0 => by rw [sOr, sAny, Bool.or_false]
  | n + 1 => by rw [sOr, Nat.testBit_or, sOr_bit a f i n, sAny, Bool.or_assoc]
theorem p2_bit (n i : Nat) : (2 ^ n).testBit i = decide (n = i) := Nat.testBit_two_pow
/-- a set by its members -/
theorem set_bit {f : Nat → Bool} (n i : Nat) : (sOr 0 (fun w => if f w then 2 ^ w else 0) n).testBit i = (decide (i < n) && f i) := by
  rw [sOr_bit, Nat.zero_testBit, Bool.false_or]
  cases h : sAny (fun j => (if f j = true then 2 ^ j else 0).testBit i) n with
  | true =>
    obtain ⟨j, h1, h2⟩ := sAny_t.mp h
    by_cases q : f j = true
    · rw [if_pos q, p2_bit] at h2
      have e := of_decide_eq_true h2
      subst e
      rw [decide_eq_true h1, q]; rfl
    · rw [if_neg q, Nat.zero_testBit] at h2; cases h2
  | false =>
    by_cases q : i < n ∧ f i = true
    · have : sAny (fun j => (if f j = true then 2 ^ j else 0).testBit i) n = true := sAny_t.mpr ⟨i, q.1, by rw [if_pos q.2, p2_bit]; exact decide_eq_true rfl⟩
      rw [this] at h; cases h
    · by_cases q1 : i < n
      · rw [decide_eq_true q1]
        cases q2 : f i with
        | true => exact absurd ⟨q1, q2⟩ q
        | false => rfl
      · rw [decide_eq_false q1]; rfl
theorem set_lt {f : Nat → Bool} {n m : Nat} (h : n ≤ m) : sOr 0 (fun w => if f w then 2 ^ w else 0) n < 2 ^ m := by
  apply Nat.lt_pow_two_of_testBit
  intro i hi
  rw [set_bit, decide_eq_false (by omega)]; rfl
/-- the tunes of w that sound like v's t -/
def sAlR (kv kw t : Nat) : Nat → Nat
  | 0 => 0
  | u + 1 => sOr (sAlR kv kw t u) (fun f => if sNoteBy kv t f = sNoteBy kw u f then 2 ^ u else 0) 6
def sAl (M : Nat → Nat) (v w t : Nat) : Nat := if sNr M v w then sAlR (M (3 + v)) (M (3 + w)) t 12 else 0
theorem sAlF_lt {x y u : Nat} (hu : u < 12) : (if x = y then 2 ^ u else 0) < 4096 := by
  split
  · exact Nat.pow_lt_pow_right (a := 2) (n := 12) (by decide) hu
  · decide
theorem sAlR_lt (kv kw t : Nat) : ∀ u, u ≤ 12 → sAlR kv kw t u < 4096
  | 0, _ => by unfold sAlR; decide
  | u + 1, h => by
    unfold sAlR
    exact sOr_lt (sAlR_lt kv kw t u (by omega)) (fun f => sAlF_lt (by omega)) 6
theorem sAl_lt (M : Nat → Nat) (v w t : Nat) : sAl M v w t < 4096 := by
  unfold sAl
  split
  · exact sAlR_lt _ _ _ 12 (Nat.le_refl _)
  · decide
theorem sAlR_bit (kv kw t u : Nat) : ∀ n, (sAlR kv kw t n).testBit u = (decide (u < n) && sAny (fun f => decide (sNoteBy kv t f = sNoteBy kw u f)) 6)
  | 0 => by rw [sAlR, Nat.zero_testBit, decide_eq_false (Nat.not_lt_zero u)]; rfl
  | n + 1 => by
    rw [sAlR, sOr_bit, sAlR_bit kv kw t u n]
    by_cases q : u = n
    · subst q
      rw [decide_eq_false (Nat.lt_irrefl u), decide_eq_true (Nat.lt_succ_self u), Bool.false_and, Bool.false_or, Bool.true_and]
      exact sAny_cong (fun i _ => by
        by_cases z : sNoteBy kv t i = sNoteBy kw u i
        · rw [if_pos z, p2_bit, decide_eq_true z]; exact decide_eq_true rfl
        · rw [if_neg z, Nat.zero_testBit, decide_eq_false z])
    · have h0 : sAny (fun j => (if sNoteBy kv t j = sNoteBy kw n j then 2 ^ n else 0).testBit u) 6 = false := by
        rw [← Bool.not_eq_true, sAny_t]
        rintro ⟨i, _, h⟩
        split at h
        · rw [p2_bit] at h; exact q (of_decide_eq_true h).symm
        · rw [Nat.zero_testBit] at h; cases h
      rw [h0, Bool.or_false]
      by_cases z : u < n
      · rw [decide_eq_true z, decide_eq_true (by omega : u < n + 1)]
      · rw [decide_eq_false z, decide_eq_false (by omega : ¬ u < n + 1)]
theorem sAl_bit (M : Nat → Nat) (v w t u : Nat) : (sAl M v w t).testBit u = (decide (u < 12) && (sNr M v w && sAk M v w t u)) := by
  unfold sAl
  cases h : sNr M v w with
  | true => rw [if_pos rfl, sAlR_bit, Bool.true_and]; rfl
  | false => rw [if_neg (by decide), Nat.zero_testBit, Bool.false_and, Bool.and_false]
/-- the tunes that w may have beside the wires of T -/
def sMayF (M tn : Nat → Nat) (T w : Nat) : Nat → Nat
  | 0 => 4095
  | v + 1 => sMayF M tn T w v ^^^ (sMayF M tn T w v &&& (if T.testBit v then sAl M v w (tn v) else 0))
theorem sMayF_lt (M tn : Nat → Nat) (T w : Nat) : ∀ n, sMayF M tn T w n < 4096
  | 0 => by unfold sMayF; decide
  | n + 1 => by unfold sMayF; exact Nat.lt_of_le_of_lt (andnot_le _ _) (sMayF_lt M tn T w n)
theorem sMayF_bit (M tn : Nat → Nat) (T w u : Nat) : ∀ n, (sMayF M tn T w n).testBit u = true ↔ u < 12 ∧ ∀ v, v < n → T.testBit v = true → sNr M v w = true → sAk M v w (tn v) u = false
  | 0 => by
    rw [sMayF, show 4095 = 2 ^ 12 - 1 from rfl, Nat.testBit_two_pow_sub_one, decide_eq_true_eq]
    exact ⟨fun h => ⟨h, fun v hv => absurd hv (Nat.not_lt_zero v)⟩, fun h => h.1⟩
  | n + 1 => by
    rw [sMayF, andnot_bit, Bool.and_eq_true, sMayF_bit M tn T w u n]
    constructor
    · rintro ⟨⟨h1, h2⟩, h3⟩
      refine ⟨h1, fun v hv hT hN => ?_⟩
      by_cases q : v = n
      · subst q
        rw [if_pos hT, sAl_bit, decide_eq_true h1, hN, Bool.true_and, Bool.true_and] at h3
        simpa using h3
      · exact h2 v (by omega) hT hN
    · rintro ⟨h1, h2⟩
      refine ⟨⟨h1, fun v hv => h2 v (by omega)⟩, ?_⟩
      by_cases hT : T.testBit n = true
      · rw [if_pos hT, sAl_bit, decide_eq_true h1, Bool.true_and]
        cases hN : sNr M n w with
        | false => rfl
        | true => rw [h2 n (by omega) hT hN]; rfl
      · rw [if_neg hT, Nat.zero_testBit]; rfl
/-- the lowest one -/
def sLowF (x : Nat) : Nat → Nat → Nat
  | 0, t => t
  | f + 1, t => if x.testBit t then t else sLowF x f (t + 1)
def sLow (x : Nat) : Nat := sLowF x 12 0
theorem low_all0 : ∀ c, c < 64 → ∀ d, d < 64 → 64 * c + d = 0 ∨ (sLow (64 * c + d) < 12 ∧ (64 * c + d).testBit (sLow (64 * c + d)) = true ∧ ((64 * c + d) &&& (64 * c + d - 1)) = (64 * c + d) ^^^ 2 ^ sLow (64 * c + d)) := by decide +kernel
theorem low_all {x : Nat} (hx : x < 4096) (h0 : x ≠ 0) : sLow x < 12 ∧ x.testBit (sLow x) = true ∧ (x &&& (x - 1)) = x ^^^ 2 ^ sLow x := by
  have h := low_all0 (x / 64) (by omega) (x % 64) (by omega)
  rw [show 64 * (x / 64) + x % 64 = x by omega] at h
  exact h.resolve_left h0
theorem low_rest {x : Nat} (hx : x < 4096) (h0 : x ≠ 0) (i : Nat) : (x &&& (x - 1)).testBit i = true ↔ x.testBit i = true ∧ i ≠ sLow x := by
  obtain ⟨h1, h2, h3⟩ := low_all hx h0
  rw [h3, Nat.testBit_xor, p2_bit]
  by_cases q : sLow x = i
  · subst q
    rw [h2, decide_eq_true rfl]
    simp
  · rw [decide_eq_false q, Bool.xor_false]
    exact ⟨fun h => ⟨h, fun z => q z.symm⟩, fun h => h.1⟩
theorem low_less {x : Nat} (hx : x < 4096) (h0 : x ≠ 0) : (x &&& (x - 1)) < x := Nat.lt_of_le_of_lt Nat.and_le_right (by omega)
/-- the reference's search: k wires of the order o (of m) have a tune; T those that have one; lf what is left to try -/
def rn (M o : Nat → Nat) (m : Nat) : Nat → Nat → Nat → (Nat → Nat) → (Nat → Nat) → Option Bool
  | 0, _, _, _, _ => none
  | g + 1, k, T, tn, lf =>
    if m ≤ k then some true
    else if lf k = 0 then (if k = 0 then some false else rn M o m g (k - 1) (T ^^^ (T &&& 2 ^ o (k - 1))) tn lf)
    else if k + 1 < m then rn M o m g (k + 1) (T ||| 2 ^ o k) (nset tn (o k) (sLow (lf k))) (nset (nset lf k (lf k &&& (lf k - 1))) (k + 1) (sMayF M (nset tn (o k) (sLow (lf k))) (T ||| 2 ^ o k) (o (k + 1)) (M 0 - 1)))
    else rn M o m g (k + 1) (T ||| 2 ^ o k) (nset tn (o k) (sLow (lf k))) (nset lf k (lf k &&& (lf k - 1)))
/-- w isn't among the wires of the order from k on -/
def oIn (o : Nat → Nat) (m k w : Nat) : Prop := ∀ i, k ≤ i → i < m → o i ≠ w
def oSet (M o : Nat → Nat) (m k T : Nat) : Prop := ∀ w, w < M 0 - 1 → (T.testBit w = true ↔ oIn o m k w)
def oExt (M o : Nat → Nat) (m k : Nat) (tn : Nat → Nat) : Prop := ∃ t : Nat → Nat, (∀ w, w < M 0 - 1 → t w < 12) ∧ (∀ w, w < M 0 - 1 → oIn o m k w → t w = tn w) ∧ sTun M t
/-- those of T have tunes and don't clash -/
def oCons (M : Nat → Nat) (T : Nat) (tn : Nat → Nat) : Prop := (∀ w, w < M 0 - 1 → T.testBit w = true → tn w < 12) ∧ ∀ v w, v < M 0 - 1 → w < M 0 - 1 → T.testBit v = true → T.testBit w = true → sNr M v w = true → sAk M v w (tn v) (tn w) = false
theorem oExt_cong {M o : Nat → Nat} {m k : Nat} {tn tn' : Nat → Nat} (h : ∀ w, w < M 0 - 1 → oIn o m k w → tn w = tn' w) (q : oExt M o m k tn) : oExt M o m k tn' := by
  obtain ⟨t, h1, h2, h3⟩ := q
  exact ⟨t, h1, fun w hw hi => (h2 w hw hi).trans (h w hw hi), h3⟩
theorem oSet_up {M o : Nat → Nat} {m k T : Nat} (hinj : ∀ i j, i < m → j < m → o i = o j → i = j) (hk : k < m) (h : oSet M o m k T) : oSet M o m (k + 1) (T ||| 2 ^ o k) := by
  intro w hw
  rw [Nat.testBit_or, Bool.or_eq_true, h w hw, p2_bit, decide_eq_true_eq]
  constructor
  · rintro (q | q) i h1 h2
    · exact q i (by omega) h2
    · intro z
      have := hinj i k h2 hk (z.trans q.symm)
      omega
  · intro q
    by_cases z : o k = w
    · exact Or.inr z
    · refine Or.inl (fun i h1 h2 => ?_)
      by_cases y : i = k
      · subst y; exact z
      · exact q i (by omega) h2
theorem oSet_down {M o : Nat → Nat} {m k T : Nat} (hk : k < m) (h : oSet M o m (k + 1) T) : oSet M o m k (T ^^^ (T &&& 2 ^ o k)) := by
  intro w hw
  rw [andnot_bit, Bool.and_eq_true, h w hw, p2_bit]
  constructor
  · rintro ⟨q1, q2⟩ i h1 h2
    by_cases y : i = k
    · subst y
      intro z
      rw [decide_eq_true z] at q2
      cases q2
    · exact q1 i (by omega) h2
  · intro q
    refine ⟨fun i h1 h2 => q i (by omega) h2, ?_⟩
    rw [decide_eq_false (q k (Nat.le_refl k) hk)]
    rfl
theorem oCons_up {M o : Nat → Nat} {k T u : Nat} {tn : Nat → Nat} (hc : oCons M T tn) (hu : (sMayF M tn T (o k) (M 0 - 1)).testBit u = true) (hnot : T.testBit (o k) ≠ true) : oCons M (T ||| 2 ^ o k) (nset tn (o k) u) := by
  have hm := (sMayF_bit M tn T (o k) u (M 0 - 1)).mp hu
  have hb : ∀ w, (T ||| 2 ^ o k).testBit w = true → w ≠ o k → T.testBit w = true := by
    intro w h1 h2
    rw [Nat.testBit_or, p2_bit, decide_eq_false (fun z => h2 z.symm), Bool.or_false] at h1
    exact h1
  refine ⟨fun w hw h1 => ?_, fun v w hv hw h1 h2 h3 => ?_⟩
  · by_cases q : w = o k
    · subst q; rw [nset_same]; exact hm.1
    · rw [nset_ne _ _ q]; exact hc.1 w hw (hb w h1 q)
  · by_cases q1 : v = o k
    · subst q1
      have q2 : w ≠ o k := sNr_ne h3
      rw [nset_same, nset_ne _ _ q2, sAk_symm]
      exact hm.2 w hw (hb w h2 q2) ((sNr_symm M w (o k)).trans h3)
    · by_cases q2 : w = o k
      · subst q2
        rw [nset_same, nset_ne _ _ q1]
        exact hm.2 v hv (hb v h1 q1) h3
      · rw [nset_ne _ _ q1, nset_ne _ _ q2]
        exact hc.2 v w hv hw (hb v h1 q1) (hb w h2 q2) h3
theorem rn_true {M o : Nat → Nat} {m g k T : Nat} {tn lf : Nat → Nat} (h : m ≤ k) : rn M o m (g + 1) k T tn lf = some true := by rw [rn, if_pos h]
theorem rn_false {M o : Nat → Nat} {m g T : Nat} {tn lf : Nat → Nat} (h : 0 < m) (h0 : lf 0 = 0) : rn M o m (g + 1) 0 T tn lf = some false := by rw [rn, if_neg (by omega), if_pos h0, if_pos rfl]
theorem rn_back {M o : Nat → Nat} {m g k T : Nat} {tn lf : Nat → Nat} (h : k + 1 < m) (h0 : lf (k + 1) = 0) : rn M o m (g + 1) (k + 1) T tn lf = rn M o m g k (T ^^^ (T &&& 2 ^ o k)) tn lf := by rw [rn, if_neg (by omega), if_pos h0, if_neg (by omega)]; rfl
theorem rn_on {M o : Nat → Nat} {m g k T : Nat} {tn lf : Nat → Nat} (h : k + 1 < m) (h0 : lf k ≠ 0) : rn M o m (g + 1) k T tn lf = rn M o m g (k + 1) (T ||| 2 ^ o k) (nset tn (o k) (sLow (lf k))) (nset (nset lf k (lf k &&& (lf k - 1))) (k + 1) (sMayF M (nset tn (o k) (sLow (lf k))) (T ||| 2 ^ o k) (o (k + 1)) (M 0 - 1))) := by rw [rn, if_neg (by omega), if_neg h0, if_pos h]
theorem rn_last {M o : Nat → Nat} {m g k T : Nat} {tn lf : Nat → Nat} (hk : k < m) (h : ¬ k + 1 < m) (h0 : lf k ≠ 0) : rn M o m (g + 1) k T tn lf = rn M o m g (k + 1) (T ||| 2 ^ o k) (nset tn (o k) (sLow (lf k))) (nset lf k (lf k &&& (lf k - 1))) := by rw [rn, if_neg (by omega), if_neg h0, if_neg h]
/-- all that are left for the wire o k, one by one -/
theorem rn_search {M o : Nat → Nat} {m : Nat} (ho : ∀ i, i < m → o i < M 0 - 1) (hinj : ∀ i j, i < m → j < m → o i = o j → i = j) : ∀ (d k : Nat), k + d + 1 = m → ∀ (L T : Nat) (tn lf : Nat → Nat), oSet M o m k T → oCons M T tn → lf k = L → L < 4096 → (∀ u, L.testBit u = true → (sMayF M tn T (o k) (M 0 - 1)).testBit u = true) →
    ((∃ u, L.testBit u = true ∧ oExt M o m (k + 1) (nset tn (o k) u)) → ∃ g, rn M o m g k T tn lf = some true) ∧
    ((¬ ∃ u, L.testBit u = true ∧ oExt M o m (k + 1) (nset tn (o k) u)) → ∃ (j T' : Nat) (tn' lf' : Nat → Nat), oSet M o m k T' ∧ (∀ w, w < M 0 - 1 → oIn o m k w → tn' w = tn w) ∧ (∀ i, i < k → lf' i = lf i) ∧ lf' k = 0 ∧ ∀ g, rn M o m (g + j) k T tn lf = rn M o m g k T' tn' lf') := by
  intro d
  induction d with
  | zero =>
    intro k hk L T tn lf hT hc hL hL2 hmay
    by_cases h0 : L = 0
    · subst h0
      refine ⟨fun ⟨u, hu, _⟩ => ?_, fun _ => ⟨0, T, tn, lf, hT, fun _ _ _ => rfl, fun _ _ => rfl, hL, fun g => rfl⟩⟩
      rw [Nat.zero_testBit] at hu; cases hu
    · have hlow := low_all hL2 h0
      have hnot : T.testBit (o k) ≠ true := fun q => ((hT (o k) (ho k (by omega))).mp q) k (Nat.le_refl k) (by omega) rfl
      have hT1 := oSet_up hinj (show k < m by omega) hT
      have hc1 := oCons_up (o := o) (k := k) hc (hmay _ hlow.2.1) hnot
      have hE : oExt M o m (k + 1) (nset tn (o k) (sLow L)) := by
        have hall : ∀ w, w < M 0 - 1 → (T ||| 2 ^ o k).testBit w = true := fun w hw => (hT1 w hw).mpr (fun i h1 h2 => absurd h2 (by omega))
        exact ⟨nset tn (o k) (sLow L), fun w hw => hc1.1 w hw (hall w hw), fun _ _ _ => rfl, fun v w hv hw h => hc1.2 v w hv hw (hall v hv) (hall w hw) h⟩
      refine ⟨fun _ => ⟨2, ?_⟩, fun h => absurd ⟨_, hlow.2.1, hE⟩ h⟩
      rw [rn_last (by omega) (by omega) (by rw [hL]; exact h0)]
      exact rn_true (by omega)
  | succ d ih =>
    intro k hk L
    induction L using Nat.strongRecOn with
    | _ L ihL =>
    intro T tn lf hT hc hL hL2 hmay
    by_cases h0 : L = 0
    · subst h0
      refine ⟨fun ⟨u, hu, _⟩ => ?_, fun _ => ⟨0, T, tn, lf, hT, fun _ _ _ => rfl, fun _ _ => rfl, hL, fun g => rfl⟩⟩
      rw [Nat.zero_testBit] at hu; cases hu
    · have hlow := low_all hL2 h0
      have hnot : T.testBit (o k) ≠ true := fun q => ((hT (o k) (ho k (by omega))).mp q) k (Nat.le_refl k) (by omega) rfl
      have hT1 := oSet_up hinj (show k < m by omega) hT
      have hc1 := oCons_up (o := o) (k := k) hc (hmay _ hlow.2.1) hnot
      have hon : ∀ g, rn M o m (g + 1) k T tn lf = rn M o m g (k + 1) (T ||| 2 ^ o k) (nset tn (o k) (sLow L)) (nset (nset lf k (L &&& (L - 1))) (k + 1) (sMayF M (nset tn (o k) (sLow L)) (T ||| 2 ^ o k) (o (k + 1)) (M 0 - 1))) := by
        intro g
        rw [rn_on (by omega) (by rw [hL]; exact h0), hL]
      generalize hu1 : sLow L = u at hlow hc1 hon
      generalize htn1 : nset tn (o k) u = tn1 at hc1 hon
      generalize hTT : T ||| 2 ^ o k = T1 at hT1 hc1 hon
      generalize hLL : sMayF M tn1 T1 (o (k + 1)) (M 0 - 1) = L' at hon
      have key := ih (k + 1) (by omega) L' T1 tn1 (nset (nset lf k (L &&& (L - 1))) (k + 1) L') hT1 hc1 (nset_same _ _ _) (by rw [← hLL]; exact sMayF_lt _ _ _ _ _) (fun u' h => by rw [hLL]; exact h)
      have hgood : (∃ u', L'.testBit u' = true ∧ oExt M o m (k + 1 + 1) (nset tn1 (o (k + 1)) u')) ↔ oExt M o m (k + 1) tn1 := by
        constructor
        · rintro ⟨u', h1, t, h2, h3, h4⟩
          refine ⟨t, h2, fun w hw hi => ?_, h4⟩
          rw [h3 w hw (fun i q1 q2 => hi i (by omega) q2), nset_ne _ _ (fun z => hi (k + 1) (Nat.le_refl _) (by omega) z.symm)]
        · rintro ⟨t, h2, h3, h4⟩
          have hok := ho (k + 1) (by omega)
          refine ⟨t (o (k + 1)), ?_, t, h2, fun w hw hi => ?_, h4⟩
          · rw [← hLL]
            refine (sMayF_bit _ _ _ _ _ _).mpr ⟨h2 _ hok, fun v hv q1 q2 => ?_⟩
            rw [← h3 v hv ((hT1 v hv).mp q1)]
            exact h4 v _ hv hok q2
          · by_cases q : w = o (k + 1)
            · subst q; rw [nset_same]
            · rw [nset_ne _ _ q]
              refine h3 w hw (fun i q1 q2 => ?_)
              by_cases y : i = k + 1
              · subst y; exact fun z => q z.symm
              · exact hi i (by omega) q2
      rw [hgood] at key
      by_cases hE : oExt M o m (k + 1) tn1
      · obtain ⟨g, hg⟩ := key.1 hE
        exact ⟨fun _ => ⟨g + 1, by rw [hon]; exact hg⟩, fun h => absurd ⟨u, hlow.2.1, by rw [htn1]; exact hE⟩ h⟩
      · obtain ⟨j, T', tn', lf', k1, k2, k3, k4, k5⟩ := key.2 hE
        have hT2 := oSet_down (show k < m by omega) k1
        have hback : ∀ g, rn M o m (g + (j + 2)) k T tn lf = rn M o m g k (T' ^^^ (T' &&& 2 ^ o k)) tn' lf' := by
          intro g
          rw [show g + (j + 2) = (g + 1 + j) + 1 by omega, hon, k5, rn_back (by omega) k4]
        generalize T' ^^^ (T' &&& 2 ^ o k) = T2 at hT2 hback
        have hag : ∀ w, w < M 0 - 1 → oIn o m k w → tn' w = tn w := by
          intro w hw hi
          rw [k2 w hw (fun i q1 q2 => hi i (by omega) q2), ← htn1, nset_ne _ _ (fun z => hi k (Nat.le_refl k) (by omega) z.symm)]
        have hTe : ∀ w, w < M 0 - 1 → (T2.testBit w = true ↔ T.testBit w = true) := fun w hw => (hT2 w hw).trans (hT w hw).symm
        have hc2 : oCons M T2 tn' := by
          refine ⟨fun w hw h => ?_, fun v w hv hw h1 h2 h3 => ?_⟩
          · rw [hag w hw ((hT2 w hw).mp h)]; exact hc.1 w hw ((hTe w hw).mp h)
          · rw [hag v hv ((hT2 v hv).mp h1), hag w hw ((hT2 w hw).mp h2)]
            exact hc.2 v w hv hw ((hTe v hv).mp h1) ((hTe w hw).mp h2) h3
        have hl2 : lf' k = L &&& (L - 1) := by rw [k3 k (Nat.lt_succ_self k), nset_ne _ _ (by omega), nset_same]
        have hless := low_less hL2 h0
        have ihL2 := ihL (L &&& (L - 1)) hless T2 tn' lf' hT2 hc2 hl2 (by omega) (fun u' h => by
          have hb := (low_rest hL2 h0 u').mp h
          obtain ⟨m1, m2⟩ := (sMayF_bit _ _ _ _ _ _).mp (hmay u' hb.1)
          refine (sMayF_bit _ _ _ _ _ _).mpr ⟨m1, fun v hv q1 q2 => ?_⟩
          rw [hag v hv ((hT2 v hv).mp q1)]
          exact m2 v hv ((hTe v hv).mp q1) q2)
        have hsame : (∃ u', (L &&& (L - 1)).testBit u' = true ∧ oExt M o m (k + 1) (nset tn' (o k) u')) ↔ (∃ u', L.testBit u' = true ∧ oExt M o m (k + 1) (nset tn (o k) u')) := by
          have hcg : ∀ u' w, w < M 0 - 1 → oIn o m (k + 1) w → nset tn' (o k) u' w = nset tn (o k) u' w := by
            intro u' w hw hi
            by_cases q : w = o k
            · subst q; rw [nset_same, nset_same]
            · rw [nset_ne _ _ q, nset_ne _ _ q]
              refine hag w hw (fun i q1 q2 => ?_)
              by_cases y : i = k
              · subst y; exact fun z => q z.symm
              · exact hi i (by omega) q2
          constructor
          · rintro ⟨u', h1, h2⟩
            exact ⟨u', ((low_rest hL2 h0 u').mp h1).1, oExt_cong (hcg u') h2⟩
          · rintro ⟨u', h1, h2⟩
            have hne : u' ≠ sLow L := by
              intro z
              rw [z, hu1, htn1] at h2
              exact hE h2
            exact ⟨u', (low_rest hL2 h0 u').mpr ⟨h1, hne⟩, oExt_cong (fun w hw hi => (hcg u' w hw hi).symm) h2⟩
        rw [hsame] at ihL2
        refine ⟨fun h => ?_, fun h => ?_⟩
        · obtain ⟨g, hg⟩ := ihL2.1 h
          exact ⟨g + (j + 2), by rw [hback]; exact hg⟩
        · obtain ⟨j2, T3, tn3, lf3, z1, z2, z3, z4, z5⟩ := ihL2.2 h
          refine ⟨j2 + (j + 2), T3, tn3, lf3, z1, fun w hw hi => (z2 w hw hi).trans (hag w hw hi), fun i hi => ?_, z4, fun g => ?_⟩
          · rw [z3 i hi, k3 i (by omega), nset_ne _ _ (by omega), nset_ne _ _ (by omega)]
          · rw [← Nat.add_assoc, hback, z5]
/-- the whole search -/
theorem rn_whole {M o : Nat → Nat} {m S T : Nat} {tn lf : Nat → Nat} (ho : ∀ i, i < m → o i < M 0 - 1) (hinj : ∀ i j, i < m → j < m → o i = o j → i = j) (hset : ∀ w, w < M 0 - 1 → (S.testBit w = true ↔ ∃ i, i < m ∧ o i = w)) (hT : ∀ w, w < M 0 - 1 → (T.testBit w = true ↔ S.testBit w = false)) (htn : ∀ w, w < M 0 - 1 → tn w = M (11 + w)) (hc : oCons M T tn) (h0 : 0 < m → lf 0 = sMayF M tn T (o 0) (M 0 - 1)) : ∃ g, rn M o m g 0 T tn lf = some (sCanB M S) := by
  have hIn : ∀ w, w < M 0 - 1 → (S.testBit w = false ↔ oIn o m 0 w) := by
    intro w hw
    rw [← Bool.not_eq_true, hset w hw]
    exact ⟨fun h i _ h2 h3 => h ⟨i, h2, h3⟩, fun h ⟨i, h1, h2⟩ => h i (Nat.zero_le i) h1 h2⟩
  have hT0 : oSet M o m 0 T := fun w hw => (hT w hw).trans (hIn w hw)
  have hcan : oExt M o m 0 tn ↔ sCan M S := by
    constructor
    · rintro ⟨t, h1, h2, h3⟩
      exact ⟨t, h1, fun w hw h => (h2 w hw ((hIn w hw).mp h)).trans (htn w hw), h3⟩
    · rintro ⟨t, h1, h2, h3⟩
      exact ⟨t, h1, fun w hw h => (h2 w hw ((hIn w hw).mpr h)).trans (htn w hw).symm, h3⟩
  rcases Nat.eq_zero_or_pos m with hm | hm
  · refine ⟨1, ?_⟩
    rw [rn_true (by omega), (sCanB_t (M := M) (S := S)).mpr]
    refine hcan.mp ⟨tn, fun w hw => hc.1 w hw ((hT0 w hw).mpr (fun i _ h2 => absurd h2 (by omega))), fun _ _ _ => rfl, fun v w hv hw h => hc.2 v w hv hw ((hT0 v hv).mpr (fun i _ h2 => absurd h2 (by omega))) ((hT0 w hw).mpr (fun i _ h2 => absurd h2 (by omega))) h⟩
  · have key := rn_search ho hinj (m - 1) 0 (by omega) (lf 0) T tn lf hT0 hc rfl (by rw [h0 hm]; exact sMayF_lt _ _ _ _ _) (fun u h => by rw [h0 hm] at h; exact h)
    have hgood : (∃ u, (lf 0).testBit u = true ∧ oExt M o m (0 + 1) (nset tn (o 0) u)) ↔ sCan M S := by
      rw [← hcan]
      constructor
      · rintro ⟨u, h1, t, h2, h3, h4⟩
        exact ⟨t, h2, fun w hw hi => by rw [h3 w hw (fun i q1 q2 => hi i (by omega) q2), nset_ne _ _ (fun z => hi 0 (Nat.le_refl _) hm z.symm)], h4⟩
      · rintro ⟨t, h2, h3, h4⟩
        have hok := ho 0 hm
        refine ⟨t (o 0), ?_, t, h2, fun w hw hi => ?_, h4⟩
        · rw [h0 hm]
          refine (sMayF_bit _ _ _ _ _ _).mpr ⟨h2 _ hok, fun v hv q1 q2 => ?_⟩
          rw [← h3 v hv ((hT0 v hv).mp q1)]
          exact h4 v _ hv hok q2
        · by_cases q : w = o 0
          · subst q; rw [nset_same]
          · rw [nset_ne _ _ q]
            refine h3 w hw (fun i q1 q2 => ?_)
            by_cases y : i = 0
            · subst y; exact fun z => q z.symm
            · exact hi i (by omega) q2
    rw [hgood] at key
    by_cases h : sCan M S
    · obtain ⟨g, hg⟩ := key.1 h
      exact ⟨g, by rw [hg, sCanB_t.mpr h]⟩
    · obtain ⟨j, T', tn', lf', _, _, _, k4, k5⟩ := key.2 h
      exact ⟨1 + j, by rw [k5, rn_false hm k4, sCanB_f.mpr h]⟩
