/-! SPEC 11: the least set; the class's tuner -/
/-- fewer ones, or as many and less -/
def rLt (s b : Nat) : Prop := sPop s < sPop b ∨ (sPop s = sPop b ∧ s < b)
def rBest (C : Nat → Bool) (n b : Nat) : Prop := b < 2 ^ n ∧ C b = true ∧ ∀ s, s < 2 ^ n → C s = true → ¬ rLt s b
theorem rBest_one {C : Nat → Bool} {n b c : Nat} (h1 : rBest C n b) (h2 : rBest C n c) : b = c := by
  have a1 := h1.2.2 c h2.1 h2.2.1
  have a2 := h2.2.2 b h1.1 h1.2.1
  unfold rLt at a1 a2
  omega
/-- the reference's choice -/
noncomputable def rFold (C : Nat → Bool) (f : Nat) : Nat → Nat
  | 0 => f
  | s + 1 => if (sPop s < sPop (rFold C f s) ∨ (sPop s = sPop (rFold C f s) ∧ s < rFold C f s)) ∧ C s = true then s else rFold C f s
theorem rFold_1 {C : Nat → Bool} {f s : Nat} (h : rLt s (rFold C f s)) (hc : C s = true) : rFold C f (s + 1) = s := by rw [rFold, if_pos ⟨h, hc⟩]
theorem rFold_0 {C : Nat → Bool} {f s : Nat} (h : ¬ (rLt s (rFold C f s) ∧ C s = true)) : rFold C f (s + 1) = rFold C f s := by rw [rFold]; exact if_neg h
theorem rFold_in {C : Nat → Bool} {f B : Nat} (hf : f < B) (hc : C f = true) : ∀ s, s ≤ B → rFold C f s < B ∧ C (rFold C f s) = true
  | 0, _ => ⟨hf, hc⟩
  | s + 1, h => by
    have ih := rFold_in hf hc s (by omega)
    by_cases q : rLt s (rFold C f s) ∧ C s = true
    · rw [rFold_1 q.1 q.2]; exact ⟨by omega, q.2⟩
    · rw [rFold_0 q]; exact ih
theorem rLt_tr {a b c : Nat} (h1 : rLt a b) (h2 : rLt b c) : rLt a c := by unfold rLt at *; omega
theorem rFold_best {C : Nat → Bool} {f : Nat} : ∀ s j, j < s → C j = true → ¬ rLt j (rFold C f s)
  | 0, j, h, _ => absurd h (Nat.not_lt_zero j)
  | s + 1, j, h, hc => by
    have ih := rFold_best (C := C) (f := f) s j
    by_cases q : rLt s (rFold C f s) ∧ C s = true
    · rw [rFold_1 q.1 q.2]
      by_cases e : j = s
      · subst e; unfold rLt; omega
      · intro z
        exact ih (by omega) hc (rLt_tr z q.1)
    · rw [rFold_0 q]
      by_cases e : j = s
      · subst e; exact fun z => q ⟨z, hc⟩
      · exact ih (by omega) hc
noncomputable def sRet (M : Nat → Nat) : Option Nat := if sCanB M (2 ^ (M 0 - 1) - 1) = true then some (rFold (sCanB M) (2 ^ (M 0 - 1) - 1) (2 ^ (M 0 - 1))) else none
theorem sRet_best {M : Nat → Nat} {b : Nat} (h : rBest (sCanB M) (M 0 - 1) b) (hfull : sCanB M (2 ^ (M 0 - 1) - 1) = true) : sRet M = some b := by
  unfold sRet
  rw [if_pos hfull]
  congr 1
  have hp : 0 < 2 ^ (M 0 - 1) := Nat.two_pow_pos _
  have h1 := rFold_in (C := sCanB M) (f := 2 ^ (M 0 - 1) - 1) (B := 2 ^ (M 0 - 1)) (by omega) hfull (2 ^ (M 0 - 1)) (Nat.le_refl _)
  exact rBest_one (C := sCanB M) (n := M 0 - 1) ⟨h1.1, h1.2, fun s hs hc => rFold_best _ s hs hc⟩ h
/-- the wires that are not cut -/
def kSg (M : Nat → Nat) (n : Nat) : Nat := sOr 0 (fun w => if (!decide (M (3 + w) = 4)) = true then 2 ^ w else 0) n
theorem kSg_bit (M : Nat → Nat) (n i : Nat) : (kSg M n).testBit i = (decide (i < n) && !decide (M (3 + i) = 4)) := set_bit (f := fun w => !decide (M (3 + w) = 4)) n i
theorem kSg_lt {M : Nat → Nat} {n : Nat} (h : n ≤ 8) : kSg M n < 256 := set_lt (f := fun w => !decide (M (3 + w) = 4)) (m := 8) h
/-- the wires that meet w -/
def kMt (M : Nat → Nat) (w n : Nat) : Nat := sOr 0 (fun v => if sNr M v w = true then 2 ^ v else 0) n
theorem kMt_bit (M : Nat → Nat) (w n i : Nat) : (kMt M w n).testBit i = (decide (i < n) && sNr M i w) := set_bit (f := fun v => sNr M v w) n i
theorem kMt_lt {M : Nat → Nat} {w n : Nat} (h : n ≤ 8) : kMt M w n < 256 := set_lt (f := fun v => sNr M v w) (m := 8) h
/-- what the note a of the one takes from the other; s1, s2: silk -/
def kTn (s1 s2 a : Nat) : Nat := if s1 = s2 then 2 ^ a else ((63 * 2 ^ ((if s1 = 0 then a else a + 12 - 5) % 12)) ||| (63 * 2 ^ ((if s1 = 0 then a else a + 12 - 5) % 12)) / 4096) &&& 4095
def kAk (s1 s2 a b : Nat) : Bool := sAny (fun f => decide ((if s1 = 1 then a else (a + f) % 12) = (if s2 = 1 then b else (b + f) % 12))) 6
theorem kTn_bit : ∀ s1, s1 < 2 → ∀ s2, s2 < 2 → ∀ a, a < 12 → ∀ b, b < 12 → (kTn s1 s2 a).testBit b = kAk s1 s2 a b := by decide +kernel
theorem kTn_lt : ∀ s1, s1 < 2 → ∀ s2, s2 < 2 → ∀ a, a < 12 → kTn s1 s2 a < 4096 := by decide +kernel
theorem kTn_turn : ∀ s1, s1 < 2 → ∀ s2, s2 < 2 → ∀ a, a < 12 → ∀ b, b < 12 → ∀ r, r < 13 → (kTn s1 s2 ((a + r) % 12)).testBit ((b + r) % 12) = (kTn s1 s2 a).testBit b := by decide +kernel
theorem kTn_symm : ∀ s1, s1 < 2 → ∀ s2, s2 < 2 → ∀ a, a < 12 → ∀ b, b < 12 → (kTn s1 s2 a).testBit b = (kTn s2 s1 b).testBit a := by decide +kernel
/-- the wires of O may each have a note of c's, none taken by another -/
def kSol (Mt Sl : Nat → Nat) (O : Nat) (c : Nat → Nat) : Prop := ∃ x : Nat → Nat, (∀ w, w < 8 → O.testBit w = true → x w < 12 ∧ (c w).testBit (x w) = true) ∧ ∀ v w, v < 8 → w < 8 → O.testBit v = true → O.testBit w = true → v ≠ w → (Mt v).testBit w = true → (kTn (Sl v) (Sl w) (x v)).testBit (x w) = false
noncomputable def kSolB (Mt Sl : Nat → Nat) (O : Nat) (c : Nat → Nat) : Bool := @decide (kSol Mt Sl O c) (Classical.propDecidable _)
theorem kSolB_t {Mt Sl : Nat → Nat} {O : Nat} {c : Nat → Nat} : kSolB Mt Sl O c = true ↔ kSol Mt Sl O c := by unfold kSolB; exact @decide_eq_true_iff (kSol Mt Sl O c) (Classical.propDecidable _)
theorem kSolB_f {Mt Sl : Nat → Nat} {O : Nat} {c : Nat → Nat} : kSolB Mt Sl O c = false ↔ ¬ kSol Mt Sl O c := by rw [← kSolB_t, Bool.not_eq_true]
theorem kSol_cong {Mt Sl : Nat → Nat} {O : Nat} {c c' : Nat → Nat} (h : ∀ w, w < 8 → O.testBit w = true → c w = c' w) (q : kSol Mt Sl O c) : kSol Mt Sl O c' := by
  obtain ⟨x, h1, h2⟩ := q
  exact ⟨x, fun w hw ho => by rw [← h w hw ho]; exact h1 w hw ho, h2⟩
/-- what the note a of w leaves v -/
def kNw (Mt Sl c : Nat → Nat) (w a v : Nat) : Nat := c v ^^^ (c v &&& (if (Mt w).testBit v then kTn (Sl w) (Sl v) a else 0))
theorem kNw_le (Mt Sl c : Nat → Nat) (w a v : Nat) : kNw Mt Sl c w a v ≤ c v := andnot_le _ _
theorem kNw_bit (Mt Sl c : Nat → Nat) (w a v b : Nat) : (kNw Mt Sl c w a v).testBit b = true ↔ (c v).testBit b = true ∧ ((Mt w).testBit v = true → (kTn (Sl w) (Sl v) a).testBit b = false) := by
  unfold kNw
  rw [andnot_bit, Bool.and_eq_true]
  by_cases h : (Mt w).testBit v = true
  · rw [if_pos h]
    constructor
    · rintro ⟨h1, h2⟩; exact ⟨h1, fun _ => by simpa using h2⟩
    · rintro ⟨h1, h2⟩; exact ⟨h1, by rw [h2 h]; rfl⟩
  · rw [if_neg h, Nat.zero_testBit]
    exact ⟨fun q => ⟨q.1, fun z => absurd z h⟩, fun q => ⟨q.1, rfl⟩⟩
/-- what a tuner's rows are -/
def kHyp (Mt Sl : Nat → Nat) (O : Nat) : Prop := O < 256 ∧ (∀ w, w < 8 → Sl w < 2) ∧ (∀ w, w < 8 → O.testBit w = true → Mt w < 256) ∧ ∀ v w, v < 8 → w < 8 → O.testBit v = true → O.testBit w = true → (Mt v).testBit w = (Mt w).testBit v
theorem kHyp.rest {Mt Sl : Nat → Nat} {O w : Nat} (h : kHyp Mt Sl O) : kHyp Mt Sl (O ^^^ (O &&& 2 ^ w)) := by
  have hb : ∀ v, (O ^^^ (O &&& 2 ^ w)).testBit v = true → O.testBit v = true := fun v q => by
    rw [andnot_bit, Bool.and_eq_true] at q; exact q.1
  exact ⟨Nat.lt_of_le_of_lt (andnot_le _ _) h.1, h.2.1, fun v hv q => h.2.2.1 v hv (hb v q), fun v u hv hu q1 q2 => h.2.2.2 v u hv hu (hb v q1) (hb u q2)⟩
theorem rest_bit (O w v : Nat) : (O ^^^ (O &&& 2 ^ w)).testBit v = true ↔ O.testBit v = true ∧ v ≠ w := by
  rw [andnot_bit, Bool.and_eq_true, p2_bit]
  by_cases q : w = v
  · subst q; rw [decide_eq_true rfl]; simp
  · rw [decide_eq_false q]; exact ⟨fun h => ⟨h.1, fun z => q z.symm⟩, fun h => ⟨h.1, rfl⟩⟩
theorem rest_pop {O w : Nat} (hO : O < 256) (hw : w < 8) (h : O.testBit w = true) : sPop (O ^^^ (O &&& 2 ^ w)) + 1 = sPop O := by
  have hr : O ^^^ (O &&& 2 ^ w) < 2 ^ 8 := Nat.lt_of_le_of_lt (andnot_le _ _) hO
  rw [sPop_ct 8 O hO, sPop_ct 8 _ hr]
  have e : fb_ct (fun i => (O ^^^ (O &&& 2 ^ w)).testBit i) 8 = fb_ct (fun i => if i = w then false else O.testBit i) 8 := by
    refine fb_ct_cong (fun i hi => ?_)
    rw [andnot_bit, p2_bit]
    by_cases q : i = w
    · subst q; rw [if_pos rfl, decide_eq_true rfl]; simp
    · rw [if_neg q, decide_eq_false (fun z => q z.symm)]; simp
  rw [e]
  have hu := fb_ct_upd (fun i => O.testBit i) false (i := w) (n := 8) hw
  simp only [h, if_true] at hu
  simpa using hu
/-- a wire w of O: the wires of O have a solution where one of w's notes leaves the others one -/
theorem kSol_step {Mt Sl c : Nat → Nat} {O w : Nat} (h : kHyp Mt Sl O) (hw : w < 8) (hO : O.testBit w = true) : kSol Mt Sl O c ↔ ∃ a, a < 12 ∧ (c w).testBit a = true ∧ kSol Mt Sl (O ^^^ (O &&& 2 ^ w)) (kNw Mt Sl c w a) := by
  constructor
  · rintro ⟨x, h1, h2⟩
    refine ⟨x w, (h1 w hw hO).1, (h1 w hw hO).2, x, fun v hv hr => ?_, fun v u hv hu r1 r2 hne hm => ?_⟩
    · obtain ⟨q1, q2⟩ := (rest_bit O w v).mp hr
      refine ⟨(h1 v hv q1).1, (kNw_bit _ _ _ _ _ _ _).mpr ⟨(h1 v hv q1).2, fun hm => h2 w v hw hv hO q1 (fun z => q2 z.symm) hm⟩⟩
    · exact h2 v u hv hu ((rest_bit O w v).mp r1).1 ((rest_bit O w u).mp r2).1 hne hm
  · rintro ⟨a, ha, hca, x, h1, h2⟩
    have e : ∀ v, v ≠ w → nset x w a v = x v := fun v hv => nset_ne _ _ hv
    refine ⟨nset x w a, fun v hv ho => ?_, fun v u hv hu o1 o2 hne hm => ?_⟩
    · by_cases q : v = w
      · subst q; rw [nset_same]; exact ⟨ha, hca⟩
      · have hr := h1 v hv ((rest_bit O w v).mpr ⟨ho, q⟩)
        rw [e v q]
        exact ⟨hr.1, ((kNw_bit _ _ _ _ _ _ _).mp hr.2).1⟩
    · by_cases q1 : v = w
      · subst q1
        have q2 : u ≠ v := fun z => hne z.symm
        rw [nset_same, e u q2]
        exact ((kNw_bit _ _ _ _ _ _ _).mp (h1 u hu ((rest_bit O v u).mpr ⟨o2, q2⟩)).2).2 hm
      · by_cases q2 : u = w
        · subst q2
          have hv1 := h1 v hv ((rest_bit O u v).mpr ⟨o1, q1⟩)
          rw [nset_same, e v q1, kTn_symm _ (h.2.1 v hv) _ (h.2.1 u hu) _ hv1.1 _ ha]
          exact ((kNw_bit _ _ _ _ _ _ _).mp hv1.2).2 (by rw [← h.2.2.2 v u hv hu o1 o2]; exact hm)
        · rw [e v q1, e u q2]
          exact h2 v u hv hu ((rest_bit O w v).mpr ⟨o1, q1⟩) ((rest_bit O w u).mpr ⟨o2, q2⟩) hne hm
theorem b4095 {a : Nat} (h : a < 12) : (4095 : Nat).testBit a = true := by
  rw [show 4095 = 2 ^ 12 - 1 from rfl, Nat.testBit_two_pow_sub_one]; exact decide_eq_true h
/-- where every note is open to all, one of them is enough -/
theorem kSol_turn {Mt Sl c : Nat → Nat} {O w : Nat} (h : kHyp Mt Sl O) (hw : w < 8) (hO : O.testBit w = true) (hall : ∀ v, v < 8 → O.testBit v = true → c v = 4095) (q : kSol Mt Sl O c) : kSol Mt Sl (O ^^^ (O &&& 2 ^ w)) (kNw Mt Sl c w 0) := by
  obtain ⟨x, h1, h2⟩ := q
  have hxw := (h1 w hw hO).1
  refine ⟨fun v => (x v + (12 - x w)) % 12, fun v hv hr => ?_, fun v u hv hu r1 r2 hne hm => ?_⟩
  · obtain ⟨q1, q2⟩ := (rest_bit O w v).mp hr
    have hlt : (x v + (12 - x w)) % 12 < 12 := Nat.mod_lt _ (by decide)
    refine ⟨hlt, (kNw_bit _ _ _ _ _ _ _).mpr ⟨by rw [hall v hv q1]; exact b4095 hlt, fun hm => ?_⟩⟩
    have ht := kTn_turn _ (h.2.1 w hw) _ (h.2.1 v hv) _ hxw _ (h1 v hv q1).1 (12 - x w) (by omega)
    rw [show (x w + (12 - x w)) % 12 = 0 by omega] at ht
    rw [ht]
    exact h2 w v hw hv hO q1 (fun z => q2 z.symm) hm
  · have o1 := ((rest_bit O w v).mp r1).1
    have o2 := ((rest_bit O w u).mp r2).1
    rw [kTn_turn _ (h.2.1 v hv) _ (h.2.1 u hu) _ (h1 v hv o1).1 _ (h1 u hu o2).1 (12 - x w) (by omega)]
    exact h2 v u hv hu o1 o2 hne hm
/-- the wire with the fewest notes left -/
def kMb (O : Nat) (c : Nat → Nat) : Nat → Nat × Nat
  | 0 => (0, 13)
  | w + 1 => if O.testBit w = true ∧ sPop (c w) < (kMb O c w).2 then (w, sPop (c w)) else kMb O c w
theorem kMb_1 {O : Nat} {c : Nat → Nat} {w : Nat} (h1 : O.testBit w = true) (h2 : sPop (c w) < (kMb O c w).2) : kMb O c (w + 1) = (w, sPop (c w)) := by rw [kMb, if_pos ⟨h1, h2⟩]
theorem kMb_0 {O : Nat} {c : Nat → Nat} {w : Nat} (h : ¬ (O.testBit w = true ∧ sPop (c w) < (kMb O c w).2)) : kMb O c (w + 1) = kMb O c w := by rw [kMb, if_neg h]
theorem kMb_le (O : Nat) (c : Nat → Nat) : ∀ w, (kMb O c w).2 ≤ 13
  | 0 => Nat.le_refl _
  | w + 1 => by
    have ih := kMb_le O c w
    rw [kMb]
    split
    · next h => simp only; omega
    · exact ih
theorem kMb_in {O : Nat} {c : Nat → Nat} (hc : ∀ w, w < 8 → c w < 4096) : ∀ w, w ≤ 8 → (∀ v, v < w → O.testBit v = true → (kMb O c w).2 ≤ sPop (c v)) ∧ ((kMb O c w).2 = 13 ∨ ((kMb O c w).1 < w ∧ O.testBit (kMb O c w).1 = true ∧ (kMb O c w).2 = sPop (c (kMb O c w).1)))
  | 0, _ => ⟨fun v hv => absurd hv (Nat.not_lt_zero v), Or.inl rfl⟩
  | w + 1, h => by
    have ih := kMb_in (O := O) hc w (by omega)
    by_cases q : O.testBit w = true ∧ sPop (c w) < (kMb O c w).2
    · rw [kMb_1 q.1 q.2]
      refine ⟨fun v hv ho => ?_, Or.inr ⟨Nat.lt_succ_self w, q.1, rfl⟩⟩
      by_cases e : v = w
      · subst e; exact Nat.le_refl _
      · have := ih.1 v (by omega) ho; simp only; omega
    · rw [kMb_0 q]
      refine ⟨fun v hv ho => ?_, ?_⟩
      · by_cases e : v = w
        · subst e
          exact Nat.not_lt.mp (fun z => q ⟨ho, z⟩)
        · exact ih.1 v (by omega) ho
      · rcases ih.2 with z | z
        · exact Or.inl z
        · exact Or.inr ⟨by omega, z.2⟩
theorem kMb_end {O : Nat} {c : Nat → Nat} (hO : O < 256) (h0 : O ≠ 0) (hc : ∀ w, w < 8 → c w < 4096) : (kMb O c 8).1 < 8 ∧ O.testBit (kMb O c 8).1 = true ∧ ∀ v, v < 8 → O.testBit v = true → sPop (c (kMb O c 8).1) ≤ sPop (c v) := by
  have h := kMb_in (O := O) hc 8 (Nat.le_refl _)
  obtain ⟨i, hi, hb⟩ : ∃ i, i < 8 ∧ O.testBit i = true := by
    have hp : 0 < sPop O := by
      rcases Nat.eq_zero_or_pos (sPop O) with q | q
      · exfalso
        rw [sPop_ct 8 O hO] at q
        apply h0
        apply Nat.eq_of_testBit_eq
        intro i
        rw [Nat.zero_testBit]
        by_cases z : i < 8
        · exact fb_ct_zero.mp q i z
        · exact Nat.testBit_lt_two_pow (Nat.lt_of_lt_of_le hO (Nat.pow_le_pow_right (n := 2) (by decide) (show 8 ≤ i by omega)))
      · exact q
    rw [sPop_ct 8 O hO] at hp
    exact fb_ct_pos.mp hp
  have hle := h.1 i hi hb
  have hpi : sPop (c i) ≤ 12 := sPop_len (n := 12) (hc i hi)
  rcases h.2 with q | q
  · omega
  · exact ⟨q.1, q.2.1, fun v hv ho => by rw [← q.2.2]; exact h.1 v hv ho⟩
theorem pop_4095 {x : Nat} (hx : x < 4096) (h : 12 ≤ sPop x) : x = 4095 := by
  rcases Nat.lt_or_ge x (2 ^ 12 - 1) with q | q
  · have := sPop_lt (n := 12) q; omega
  · omega
/-- narrows: the row of the rest, below i -/
def kNr (Mt Sl c : Nat → Nat) (rest w a : Nat) (old : Nat → Nat) (i : Nat) : Nat → Nat := fun v => if v < i ∧ rest.testBit v = true then kNw Mt Sl c w a v else old v
theorem kNr_0 (Mt Sl c : Nat → Nat) (rest w a : Nat) (old : Nat → Nat) : kNr Mt Sl c rest w a old 0 = old := funext fun v => if_neg (fun h => absurd h.1 (Nat.not_lt_zero v))
theorem kNr_1 (Mt Sl c : Nat → Nat) (rest w a : Nat) (old : Nat → Nat) {i : Nat} (h : rest.testBit i = true) : nset (kNr Mt Sl c rest w a old i) i (kNw Mt Sl c w a i) = kNr Mt Sl c rest w a old (i + 1) := by
  funext v
  unfold nset kNr
  by_cases q : v = i
  · subst q; rw [if_pos rfl, if_pos ⟨Nat.lt_succ_self v, h⟩]
  · rw [if_neg q]
    by_cases z : v < i ∧ rest.testBit v = true
    · rw [if_pos z, if_pos ⟨by omega, z.2⟩]
    · rw [if_neg z, if_neg (fun y => z ⟨by omega, y.2⟩)]
theorem kNr_s (Mt Sl c : Nat → Nat) (rest w a : Nat) (old : Nat → Nat) {i : Nat} (h : rest.testBit i = false) : kNr Mt Sl c rest w a old i = kNr Mt Sl c rest w a old (i + 1) := by
  funext v
  unfold kNr
  by_cases z : v < i ∧ rest.testBit v = true
  · rw [if_pos z, if_pos ⟨by omega, z.2⟩]
  · rw [if_neg z, if_neg (fun y => z ⟨by
      by_cases q : v = i
      · subst q; rw [h] at y; cases y.2
      · omega, y.2⟩)]
theorem kNr_lt {Mt Sl c : Nat → Nat} {rest w a : Nat} {old : Nat → Nat} (hc : ∀ v, c v < 4096) (ho : ∀ v, old v < 4096) (i v : Nat) : kNr Mt Sl c rest w a old i v < 4096 := by
  unfold kNr
  split
  · exact Nat.lt_of_le_of_lt (kNw_le _ _ _ _ _ _) (hc v)
  · exact ho v
theorem kSol_0 {Mt Sl : Nat → Nat} {c : Nat → Nat} : kSol Mt Sl 0 c := ⟨fun _ => 0, fun w _ h => (by rw [Nat.zero_testBit] at h; cases h), fun v _ _ _ h => (by rw [Nat.zero_testBit] at h; cases h)⟩
theorem kSol_none {Mt Sl : Nat → Nat} {O v : Nat} {c : Nat → Nat} (hv : v < 8) (h : O.testBit v = true) (h0 : c v = 0) : ¬ kSol Mt Sl O c := by
  rintro ⟨x, h1, _⟩
  have := (h1 v hv h).2
  rw [h0, Nat.zero_testBit] at this
  cases this
