/-! SPEC 12: the class's tuner and the sets that can -/
theorem note_base : ∀ kd, kd < 5 → ∀ t, t < 12 → ∀ f, f < 6 → sNoteBy kd t f = if kd = 3 then sNoteBy kd t 0 else (sNoteBy kd t 0 + f) % 12 := by decide +kernel
/-- the tune of a wire of this kind that sounds so without frost -/
def kUn (kd x : Nat) : Nat := if kd = 3 ∨ kd = 2 then (x + 1) % 12 else x
theorem un_note : ∀ kd, kd < 5 → ∀ x, x < 12 → kUn kd x < 12 ∧ sNoteBy kd (kUn kd x) 0 = x := by decide +kernel
def kSk (M : Nat → Nat) (w : Nat) : Nat := if M (3 + w) = 3 then 1 else 0
theorem kSk_lt (M : Nat → Nat) (w : Nat) : kSk M w < 2 := by unfold kSk; split <;> omega
def kNb (M : Nat → Nat) (w : Nat) : Nat := sNoteBy (M (3 + w)) (M (11 + w)) 0
theorem kNb_lt (M : Nat → Nat) (w : Nat) : kNb M w < 12 := sNoteBy_lt _ _ _
theorem ak_base {M : Nat → Nat} (hf : Wf M) {v w t u : Nat} (hv : v < 8) (hw : w < 8) (ht : t < 12) (hu : u < 12) : sAk M v w t u = (kTn (kSk M v) (kSk M w) (sNoteBy (M (3 + v)) t 0)).testBit (sNoteBy (M (3 + w)) u 0) := by
  rw [kTn_bit _ (kSk_lt M v) _ (kSk_lt M w) _ (sNoteBy_lt _ _ _) _ (sNoteBy_lt _ _ _)]
  have k1 := hf.kd hv
  have k2 := hf.kd hw
  unfold sAk kAk
  refine sAny_cong (fun f hf6 => ?_)
  rw [note_base _ (by omega) t ht f hf6, note_base _ (by omega) u hu f hf6]
  have e : ∀ z, (kSk M z = 1) = (M (3 + z) = 3) := by
    intro z
    unfold kSk
    by_cases q : M (3 + z) = 3
    · rw [if_pos q]; simp [q]
    · rw [if_neg q]; simp [q]
  simp only [e]
/-- the tuner's first row -/
def kC0 (M : Nat → Nat) (S w : Nat) : Nat := if S.testBit w then 4095 else 2 ^ kNb M w
theorem nr_sg {M : Nat → Nat} {v w n : Nat} (hv : v < n) (h : sNr M v w = true) : (kSg M n).testBit v = true := by
  unfold sNr sTog at h
  rw [kSg_bit, decide_eq_true hv]
  simp only [Bool.and_eq_true] at h
  rw [h.2.1.2]; rfl
theorem kSol_can {M : Nat → Nat} (hf : Wf M) {Mt Sl c : Nat → Nat} {S : Nat} (hMt : ∀ w, w < M 0 - 1 → Mt w = kMt M w (M 0 - 1)) (hSl : ∀ w, w < M 0 - 1 → Sl w = kSk M w) (hc : ∀ w, w < M 0 - 1 → c w = kC0 M S w) : kSol Mt Sl (kSg M (M 0 - 1)) c ↔ sCan M S := by
  have n9 := hf.n9
  have hsg : ∀ w, (kSg M (M 0 - 1)).testBit w = true → w < M 0 - 1 := by
    intro w h
    rw [kSg_bit, Bool.and_eq_true, decide_eq_true_eq] at h
    exact h.1
  constructor
  · rintro ⟨x, h1, h2⟩
    have key : ∀ w, w < M 0 - 1 → ∃ t, t < 12 ∧ (S.testBit w = false → t = M (11 + w)) ∧ ((kSg M (M 0 - 1)).testBit w = true → sNoteBy (M (3 + w)) t 0 = x w) := by
      intro w hw
      have kd := hf.kd (w := w) (by omega)
      have tn := hf.tn (w := w) (by omega)
      by_cases hs : S.testBit w = true
      · by_cases hg : (kSg M (M 0 - 1)).testBit w = true
        · have hx := (h1 w (by omega) hg).1
          have hu := un_note (M (3 + w)) (by omega) (x w) hx
          exact ⟨kUn (M (3 + w)) (x w), hu.1, fun q => absurd (hs.symm.trans q) (by decide), fun _ => hu.2⟩
        · exact ⟨0, by decide, fun q => absurd (hs.symm.trans q) (by decide), fun q => absurd q hg⟩
      · refine ⟨M (11 + w), by omega, fun _ => rfl, fun hg => ?_⟩
        have hx := (h1 w (by omega) hg).2
        rw [hc w hw, kC0, if_neg hs, p2_bit] at hx
        exact of_decide_eq_true hx
    refine ⟨fun w => if h : w < M 0 - 1 then Classical.choose (key w h) else 0, fun w hw => ?_, fun w hw hs => ?_, fun v w hv hw hn => ?_⟩
    · simp only [dif_pos hw]; exact (Classical.choose_spec (key w hw)).1
    · simp only [dif_pos hw]; exact (Classical.choose_spec (key w hw)).2.1 hs
    · simp only [dif_pos hv, dif_pos hw]
      have a := Classical.choose_spec (key v hv)
      have b := Classical.choose_spec (key w hw)
      have g1 := nr_sg hv hn
      have g2 := nr_sg hw ((sNr_symm M w v).trans hn)
      rw [ak_base hf (by omega) (by omega) a.1 b.1, a.2.2 g1, b.2.2 g2, ← hSl v hv, ← hSl w hw]
      refine h2 v w (by omega) (by omega) g1 g2 (fun z => sNr_ne hn z.symm) ?_
      rw [hMt v hv, kMt_bit, decide_eq_true hw, (sNr_symm M w v).trans hn]; rfl
  · rintro ⟨t, h1, h2, h3⟩
    refine ⟨fun w => sNoteBy (M (3 + w)) (t w) 0, fun w hw hg => ?_, fun v w hv hw g1 g2 hne hm => ?_⟩
    · have hw2 := hsg w hg
      refine ⟨sNoteBy_lt _ _ _, ?_⟩
      rw [hc w hw2, kC0]
      by_cases hs : S.testBit w = true
      · rw [if_pos hs]; exact b4095 (sNoteBy_lt _ _ _)
      · rw [if_neg hs, p2_bit]
        show decide (kNb M w = sNoteBy (M (3 + w)) (t w) 0) = true
        rw [h2 w hw2 (by simpa using hs)]
        exact decide_eq_true rfl
    · have hv2 := hsg v g1
      have hw2 := hsg w g2
      simp only
      rw [hSl v hv2, hSl w hw2, ← ak_base hf hv hw (h1 v hv2) (h1 w hw2)]
      rw [hMt v hv2, kMt_bit, Bool.and_eq_true] at hm
      exact h3 v w hv2 hw2 ((sNr_symm M v w).trans hm.2)
/-- wires that are cut don't matter -/
theorem can_sg {M : Nat → Nat} (hf : Wf M) {S S' : Nat} (h : ∀ w, w < M 0 - 1 → (kSg M (M 0 - 1)).testBit w = true → S.testBit w = S'.testBit w) : sCan M S → sCan M S' := by
  rintro ⟨t, h1, h2, h3⟩
  have n9 := hf.n9
  refine ⟨fun w => if (kSg M (M 0 - 1)).testBit w = true then t w else M (11 + w), fun w hw => ?_, fun w hw hs => ?_, fun v w hv hw hn => ?_⟩
  · simp only
    split
    · exact h1 w hw
    · have := hf.tn (w := w) (by omega); omega
  · simp only
    split
    · next g => exact h2 w hw ((h w hw g).trans hs)
    · rfl
  · simp only
    rw [if_pos (nr_sg hv hn), if_pos (nr_sg hw ((sNr_symm M w v).trans hn))]
    exact h3 v w hv hw hn
theorem can_and {M : Nat → Nat} (hf : Wf M) {S : Nat} : sCanB M S = sCanB M (S &&& kSg M (M 0 - 1)) := by
  have h1 : sCan M S ↔ sCan M (S &&& kSg M (M 0 - 1)) := ⟨can_sg hf (fun w _ g => by rw [Nat.testBit_and, g, Bool.and_true]), can_sg hf (fun w _ g => by rw [Nat.testBit_and, g, Bool.and_true])⟩
  cases h : sCanB M S with
  | true => exact (sCanB_t.mpr (h1.mp (sCanB_t.mp h))).symm
  | false => exact (sCanB_f.mpr (fun q => (sCanB_f.mp h) (h1.mpr q))).symm
theorem can_full {M : Nat → Nat} (hf : Wf M) : sCanB M (2 ^ (M 0 - 1) - 1) = sCanB M (kSg M (M 0 - 1)) := by
  rw [can_and hf]
  congr 1
  apply Nat.eq_of_testBit_eq
  intro i
  rw [Nat.testBit_and, Nat.testBit_two_pow_sub_one, kSg_bit]
  cases decide (i < M 0 - 1) <;> simp
theorem pop_sub {x y : Nat} (hy : y < 512) (h : ∀ i, x.testBit i = true → y.testBit i = true) : sPop x ≤ sPop y ∧ x ≤ y := by
  have hle : x ≤ y := Nat.le_of_testBit (fun i q => h i q)
  refine ⟨?_, hle⟩
  rw [sPop_ct 9 x (Nat.lt_of_le_of_lt hle hy), sPop_ct 9 y hy]
  exact fb_ct_sub (fun i _ q => h i q)
theorem in_sg {x g : Nat} (h : x ^^^ (x &&& g) = 0) : x &&& g = x := by
  apply Nat.eq_of_testBit_eq
  intro i
  have hb : (x ^^^ (x &&& g)).testBit i = false := by rw [h, Nat.zero_testBit]
  rw [andnot_bit] at hb
  rw [Nat.testBit_and]
  cases hx : x.testBit i <;> cases hg : g.testBit i <;> simp_all
theorem sg_in (x g : Nat) : (x &&& g) ^^^ ((x &&& g) &&& g) = 0 := by
  apply Nat.eq_of_testBit_eq
  intro i
  rw [andnot_bit, Nat.testBit_and, Nat.zero_testBit]
  cases x.testBit i <;> cases g.testBit i <;> rfl
/-- the sets of wires not cut, of less than z ones, can't -/
def kLess (M : Nat → Nat) (z : Nat) : Prop := ∀ s, s < 2 ^ (M 0 - 1) → s ^^^ (s &&& kSg M (M 0 - 1)) = 0 → sPop s < z → sCanB M s = false
def kLes2 (M : Nat → Nat) (z f : Nat) : Prop := ∀ s, s < f → s ^^^ (s &&& kSg M (M 0 - 1)) = 0 → sPop s = z → sCanB M s = false
theorem kLess_up {M : Nat → Nat} {z : Nat} (h1 : kLess M z) (h2 : kLes2 M z (2 ^ (M 0 - 1))) : kLess M (z + 1) := by
  intro s hs h3 h4
  by_cases q : sPop s = z
  · exact h2 s hs h3 q
  · exact h1 s hs h3 (by omega)
theorem ret_found {M : Nat → Nat} (hf : Wf M) {z f : Nat} (h1 : kLess M z) (h2 : kLes2 M z f) (hlt : f < 2 ^ (M 0 - 1)) (hs : f ^^^ (f &&& kSg M (M 0 - 1)) = 0) (hz : sPop f = z) (hc : sCanB M f = true) (hg : sCanB M (kSg M (M 0 - 1)) = true) : sRet M = some f := by
  refine sRet_best ⟨hlt, hc, fun s hs1 hs2 hr => ?_⟩ (by rw [can_full hf]; exact hg)
  have n9 := hf.n9
  have hp : 2 ^ (M 0 - 1) ≤ 2 ^ 8 := Nat.pow_le_pow_right (by decide) (by omega)
  have hb := pop_sub (x := s &&& kSg M (M 0 - 1)) (y := s) (by omega) (fun i q => by rw [Nat.testBit_and, Bool.and_eq_true] at q; exact q.1)
  have hc2 : sCanB M (s &&& kSg M (M 0 - 1)) = true := (can_and hf).symm.trans hs2
  have a1 := h1 (s &&& kSg M (M 0 - 1)) (by omega) (sg_in _ _)
  have a2 := h2 (s &&& kSg M (M 0 - 1))
  rw [hc2] at a1 a2
  unfold rLt at hr
  rcases Nat.lt_trichotomy (sPop (s &&& kSg M (M 0 - 1))) z with q | q | q
  · exact absurd (a1 q) (by decide)
  · exact absurd (a2 (by omega) (sg_in _ _) q) (by decide)
  · omega
theorem ret_last {M : Nat → Nat} (hf : Wf M) (h1 : kLess M 8) (hg : sCanB M (kSg M (M 0 - 1)) = true) : sRet M = some (kSg M (M 0 - 1)) := by
  have n9 := hf.n9
  have hp : 2 ^ (M 0 - 1) ≤ 2 ^ 8 := Nat.pow_le_pow_right (by decide) (by omega)
  have hlt : kSg M (M 0 - 1) < 2 ^ (M 0 - 1) := set_lt (f := fun w => !decide (M (3 + w) = 4)) (Nat.le_refl _)
  refine sRet_best ⟨hlt, hg, fun s hs1 hs2 hr => ?_⟩ (by rw [can_full hf]; exact hg)
  have hb := pop_sub (x := s &&& kSg M (M 0 - 1)) (y := s) (by omega) (fun i q => by rw [Nat.testBit_and, Bool.and_eq_true] at q; exact q.1)
  have hc2 : sCanB M (s &&& kSg M (M 0 - 1)) = true := (can_and hf).symm.trans hs2
  have a1 := h1 (s &&& kSg M (M 0 - 1)) (by omega) (sg_in _ _)
  rw [hc2] at a1
  have hq : 8 ≤ sPop (s &&& kSg M (M 0 - 1)) := Nat.not_lt.mp (fun q => absurd (a1 q) (by decide))
  have h255 : s &&& kSg M (M 0 - 1) = 255 := by
    rcases Nat.lt_or_ge (s &&& kSg M (M 0 - 1)) (2 ^ 8 - 1) with q | q
    · have := sPop_lt (n := 8) q; omega
    · omega
  have hl8 := sPop_len (n := 8) (s := kSg M (M 0 - 1)) (by omega)
  unfold rLt at hr
  omega
