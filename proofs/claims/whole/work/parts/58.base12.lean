/-! BASE 12: the tuner's world -/
/-- the tuner: its cell, notes, silken, meeting, the row of rows, nine rows of choices -/
def tu (a : Nat → Nat) (k : Nat → ClassId) (Y Nt Sl Mt : Nat → Nat) (Ch : Nat → Nat → Nat) : va_W :=
  [(a 39, .inr (3, [.ref (a 40), .ref (a 41), .ref (a 42), .ref (a 43), .int (nI (Y 0))])),
   (a 40, .inl (k 0, 8, .inl (fun i => nI (Nt i)))), (a 41, .inl (k 2, 8, .inl (fun i => nI (Sl i)))), (a 42, .inl (k 0, 8, .inl (fun i => nI (Mt i)))), (a 43, .inl (k 4, 9, .inr (.inr (.inr (.inr (fun i => if i < 9 then some (a (44 + i)) else none)))))),
   (a 44, .inl (k 0, 8, .inl (fun i => nI (Ch 0 i)))), (a 45, .inl (k 0, 8, .inl (fun i => nI (Ch 1 i)))), (a 46, .inl (k 0, 8, .inl (fun i => nI (Ch 2 i)))), (a 47, .inl (k 0, 8, .inl (fun i => nI (Ch 3 i)))), (a 48, .inl (k 0, 8, .inl (fun i => nI (Ch 4 i)))), (a 49, .inl (k 0, 8, .inl (fun i => nI (Ch 5 i)))), (a 50, .inl (k 0, 8, .inl (fun i => nI (Ch 6 i)))), (a 51, .inl (k 0, 8, .inl (fun i => nI (Ch 7 i)))), (a 52, .inl (k 0, 8, .inl (fun i => nI (Ch 8 i))))]
theorem gset_twice (G : Nat → Nat → Nat) (j : Nat) (f g : Nat → Nat) : gset (gset G j f) j g = gset G j g := by
  funext i
  unfold gset
  split <;> rfl
theorem gset_self (G : Nat → Nat → Nat) (j : Nat) : gset G j (G j) = G := by
  funext i
  unfold gset
  split
  · next h => rw [h]
  · rfl
theorem nine {d : Nat} (h : d < 9) : d = 0 ∨ d = 1 ∨ d = 2 ∨ d = 3 ∨ d = 4 ∨ d = 5 ∨ d = 6 ∨ d = 7 ∨ d = 8 := by omega
theorem tu_at {a : Nat → Nat} {k : Nat → ClassId} {Y Nt Sl Mt : Nat → Nat} {Ch : Nat → Nat → Nat} {d : Nat} (h : d < 9) : (tu a k Y Nt Sl Mt Ch)[5 + d]? = some (a (44 + d), .inl (k 0, 8, .inl (fun i => nI (Ch d i)))) := by
  rcases nine h with q | q | q | q | q | q | q | q | q <;> subst q <;> rfl
theorem tu_set {a : Nat → Nat} {k : Nat → ClassId} {Y Nt Sl Mt : Nat → Nat} {Ch : Nat → Nat → Nat} {d : Nat} {f : Nat → Nat} (h : d < 9) : (tu a k Y Nt Sl Mt Ch).set (5 + d) (a (44 + d), .inl (k 0, 8, .inl (fun i => nI (f i)))) = tu a k Y Nt Sl Mt (gset Ch d f) := by
  rcases nine h with q | q | q | q | q | q | q | q | q <;> subst q <;> rfl
section BASE12
variable {p : Program} {l : Launch} {e : Env} {R : Room} {s : State} {m : MethodId} {args : Array Value} {below : List Frame} {meth : Method} {c : Code} {H : Heap} {locs : List Loc} {Q : State → Prop} {cells slots : Nat}
variable {cc : ByteArray} {nL pc : Nat} {ls : Array Slot} {rest : List Value} {Ts : List Cond} {own : String} {D : va_G} {k : Nat → ClassId} {ws : va_W} {a : Nat}
/-- a place of the row of choices -/
theorem rald4 (hz : CallFix p m c cc nL s args Ts own) (hK : va_K D vwCl (tyL k) s) (hP : va_P D vwCl ws H) (q0 : Nat) {n i v : Nat} {f : Nat → Option Nat} (ha : ws[q0]? = some (a, .inl (k 4, n, .inr (.inr (.inr (.inr f)))))) (hi : i < n) (hn : n < 2 ^ 31) (hv : f i = some v) (hdg : decode cc pc = .ok (.aaload, 1))
    (kk : W p l e R s m args below meth c H locs cells slots Q (F0 m (pc + 1) ls (.ref v :: rest))) : W p l e R s m args below meth c H locs cells slots Q (F0 m pc ls (.int (nI i) :: .ref a :: rest)) :=
  W.aald (v := .ref v) (ty := .array .int) hz.1 hz.2.1 (hP q0 _ ha) ((hK.2 4 _ rfl).1 n (fun j => va_rf (f j))) rfl (fun q => by cases q) (by show ¬ (nI i < 0 ∨ (arrV _ _ _).slots.size ≤ _); rw [arrV_size]; exact vp_in_nI hi hn) (by show (arrV _ _ _).slots[_]? = _; rw [nI_clamp (Nat.lt_trans hi hn), arrV_read _ _ hi, hv]; rfl) rfl rfl hdg kk
end BASE12
theorem nar_lt2 {v : Nat} (h : v < 2) : vp_nar .boolean (nI v) = nI v := by
  rcases (show v = 0 ∨ v = 1 by omega) with q | q <;> subst q <;> decide
/-- narrows: none of the rest is left without a note -/
def kNB (Mt Sl c : Nat → Nat) (rest w a : Nat) (v : Nat) : Bool := !rest.testBit v || decide (kNw Mt Sl c w a v ≠ 0)
theorem kNB_ok {Mt Sl c : Nat → Nat} {rest w a : Nat} (h : sAll (kNB Mt Sl c rest w a) 8 = false) : ¬ kSol Mt Sl rest (kNw Mt Sl c w a) := by
  have h2 : ¬ ∀ i, i < 8 → kNB Mt Sl c rest w a i = true := fun q => by
    have := sAll_t.mpr q
    rw [this] at h; cases h
  intro hs
  apply h2
  intro i hi
  unfold kNB
  cases hb : rest.testBit i with
  | false => rfl
  | true =>
    have hne : kNw Mt Sl c w a i ≠ 0 := fun z => kSol_none hi hb z hs
    rw [decide_eq_true hne]; rfl
theorem sAll_no8 {f : Nat → Bool} {i n : Nat} (h : f i = false) (hi : i < n) : sAll f n = false := by
  rw [← Bool.not_eq_true]
  intro q
  rw [sAll_t.mp q i hi] at h
  cases h
theorem kNr_8 {Mt Sl c : Nat → Nat} {rest w a : Nat} {old : Nat → Nat} {v : Nat} (hv : v < 8) (h : rest.testBit v = true) : kNr Mt Sl c rest w a old 8 v = kNw Mt Sl c w a v := if_pos ⟨hv, h⟩
theorem kNr_at {Mt Sl c : Nat → Nat} {rest w a : Nat} {old : Nat → Nat} {v : Nat} (h : rest.testBit v = true) : kNr Mt Sl c rest w a old (v + 1) v = kNw Mt Sl c w a v := if_pos ⟨Nat.lt_succ_self v, h⟩
theorem solB_eq {Mt Sl : Nat → Nat} {O : Nat} {c c' : Nat → Nat} (h : ∀ w, w < 8 → O.testBit w = true → c w = c' w) : kSolB Mt Sl O c = kSolB Mt Sl O c' := by
  cases q : kSolB Mt Sl O c with
  | true => exact (kSolB_t.mpr (kSol_cong h (kSolB_t.mp q))).symm
  | false => exact (kSolB_f.mpr (fun z => (kSolB_f.mp q) (kSol_cong (fun w hw ho => (h w hw ho).symm) z))).symm
/-- the rows that a tuner keeps -/
def tOK (Nt Sl : Nat → Nat) (Ch : Nat → Nat → Nat) : Prop := (∀ v, Nt v < 12) ∧ (∀ v, Sl v < 2) ∧ ∀ i v, Ch i v < 4096
/-- what canTune lays -/
def kCf (Nt : Nat → Nat) (S : Nat) : Nat → Nat := fun z => if S.testBit z then 4095 else 2 ^ Nt z
theorem kCf_lt {Nt : Nat → Nat} (h : ∀ v, Nt v < 12) (S z : Nat) : kCf Nt S z < 4096 := by
  unfold kCf
  split
  · decide
  · exact Nat.pow_lt_pow_right (a := 2) (n := 12) (by decide) (h z)
theorem ccpy_lt {f g : Nat → Nat} {B : Nat} (hf : ∀ v, f v < B) (hg : ∀ v, g v < B) (n v : Nat) : ccpy f g n v < B := by
  unfold ccpy
  split
  · exact hg v
  · exact hf v
theorem gset_lt {G : Nat → Nat → Nat} {B j : Nat} {f : Nat → Nat} (hG : ∀ i v, G i v < B) (hf : ∀ v, f v < B) (i v : Nat) : gset G j f i v < B := by
  unfold gset
  split
  · exact hf v
  · exact hG i v
/-- the rows that were learnt -/
def kMts (M : Nat → Nat) : Nat → Nat := fun w => kMt M w (M 0 - 1)
theorem kMt_s (M : Nat → Nat) (w v : Nat) : kMt M w (v + 1) = kMt M w v ||| (if sNr M v w = true then 2 ^ v else 0) := rfl
theorem kSg_s (M : Nat → Nat) (w : Nat) : kSg M (w + 1) = kSg M w ||| (if (!decide (M (3 + w) = 4)) = true then 2 ^ w else 0) := rfl
theorem learnt_hyp {M Mt Sl : Nat → Nat} (hf : Wf M) (hSl : ∀ v, Sl v < 2) : kHyp (ccpy Mt (kMts M) (M 0 - 1)) (ccpy Sl (kSk M) (M 0 - 1)) (kSg M (M 0 - 1)) := by
  have n9 := hf.n9
  have hsg : ∀ w, (kSg M (M 0 - 1)).testBit w = true → w < M 0 - 1 := by
    intro w h
    rw [kSg_bit, Bool.and_eq_true, decide_eq_true_eq] at h
    exact h.1
  have hm : ∀ w, w < M 0 - 1 → ccpy Mt (kMts M) (M 0 - 1) w = kMt M w (M 0 - 1) := fun w hw => if_pos hw
  refine ⟨kSg_lt (by omega), fun w _ => ccpy_lt hSl (kSk_lt M) _ w, fun w _ h => ?_, fun v w _ _ h1 h2 => ?_⟩
  · rw [hm w (hsg w h)]; exact kMt_lt (by omega)
  · rw [hm v (hsg v h1), hm w (hsg w h2), kMt_bit, kMt_bit, decide_eq_true (hsg v h1), decide_eq_true (hsg w h2), sNr_symm]
theorem learnt_can {M Mt Sl Nt : Nat → Nat} (hf : Wf M) (S : Nat) : kSolB (ccpy Mt (kMts M) (M 0 - 1)) (ccpy Sl (kSk M) (M 0 - 1)) (kSg M (M 0 - 1)) (kCf (ccpy Nt (kNb M) (M 0 - 1)) S) = sCanB M S := by
  have h := kSol_can hf (Mt := ccpy Mt (kMts M) (M 0 - 1)) (Sl := ccpy Sl (kSk M) (M 0 - 1)) (c := kCf (ccpy Nt (kNb M) (M 0 - 1)) S) (S := S) (fun w hw => if_pos hw) (fun w hw => if_pos hw) (fun w hw => by unfold kCf kC0; rw [show ccpy Nt (kNb M) (M 0 - 1) w = kNb M w from if_pos hw])
  cases q : sCanB M S with
  | true => exact kSolB_t.mpr (h.mpr (sCanB_t.mp q))
  | false => exact kSolB_f.mpr (fun z => (sCanB_f.mp q) (h.mp z))
theorem learnt_ok {M Sl Nt : Nat → Nat} {Ch : Nat → Nat → Nat} (h : tOK Nt Sl Ch) : tOK (ccpy Nt (kNb M) (M 0 - 1)) (ccpy Sl (kSk M) (M 0 - 1)) Ch := ⟨ccpy_lt h.1 (kNb_lt M) _, ccpy_lt h.2.1 (kSk_lt M) _, h.2.2⟩
theorem nr_meet {M : Nat → Nat} (hf : Wf M) {v w : Nat} (hv : v < M 0 - 1) (hw : w < M 0 - 1) (hne : ¬ v = w) : sNr M v w = sMeet M v w := by
  unfold sNr
  rw [sMeet_is hf hv hw, decide_eq_false (fun q => hne q.symm)]; rfl
theorem nr_same (M : Nat → Nat) (v : Nat) : sNr M v v = false := by unfold sNr; rw [decide_eq_true rfl]; rfl
/-- one note enough, or all that are left -/
def kTr (Mt Sl c : Nat → Nat) (O w tr : Nat) : Prop := tr < 4096 ∧ (∀ a, tr.testBit a = true → (c w).testBit a = true) ∧ (kSol Mt Sl O c → ∃ a, a < 12 ∧ tr.testBit a = true ∧ kSol Mt Sl (O ^^^ (O &&& 2 ^ w)) (kNw Mt Sl c w a))
theorem kTr_left {Mt Sl c : Nat → Nat} {O w : Nat} (h : kHyp Mt Sl O) (hc : c w < 4096) (hw : w < 8) (hO : O.testBit w = true) : kTr Mt Sl c O w (c w) := ⟨hc, fun _ q => q, fun q => (kSol_step h hw hO).mp q⟩
theorem kTr_one {Mt Sl c : Nat → Nat} {O w : Nat} (h : kHyp Mt Sl O) (hc : ∀ v, c v < 4096) (hw : w < 8) (hO : O.testBit w = true) (hmin : ∀ v, v < 8 → O.testBit v = true → sPop (c w) ≤ sPop (c v)) (hall : c w = 4095) : kTr Mt Sl c O w 1 := by
  have h1 : ∀ a, (1 : Nat).testBit a = true → a = 0 := by
    intro a q
    rw [show (1 : Nat) = 2 ^ 0 from rfl, p2_bit] at q
    exact (of_decide_eq_true q).symm
  refine ⟨by decide, fun a q => by rw [h1 a q, hall]; decide, fun q => ⟨0, by decide, by decide, kSol_turn h hw hO (fun v hv ho => ?_) q⟩⟩
  have hp : sPop 4095 = 12 := by
    rw [sPop_ct 12 4095 (by decide)]; decide
  have := hmin v hv ho
  rw [hall, hp] at this
  exact pop_4095 (hc v) this
theorem tr_end {Mt Sl c : Nat → Nat} {O w tr : Nat} (h : kTr Mt Sl c O w tr) (hno : ∀ a, a < 12 → tr.testBit a = true → ¬ kSol Mt Sl (O ^^^ (O &&& 2 ^ w)) (kNw Mt Sl c w a)) : kSolB Mt Sl O c = false := by
  rw [kSolB_f]
  intro q
  obtain ⟨a, h1, h2, h3⟩ := h.2.2 q
  exact hno a h1 h2 h3
theorem tr_hit {Mt Sl c : Nat → Nat} {O w tr a : Nat} (hH : kHyp Mt Sl O) (hw : w < 8) (hO : O.testBit w = true) (h : kTr Mt Sl c O w tr) (ha : a < 12) (hb : tr.testBit a = true) (hs : kSol Mt Sl (O ^^^ (O &&& 2 ^ w)) (kNw Mt Sl c w a)) : kSolB Mt Sl O c = true := kSolB_t.mpr ((kSol_step hH hw hO).mpr ⟨a, ha, h.2.1 a hb, hs⟩)
theorem pop_0 {O : Nat} (hO : O < 256) (h0 : ¬ O = 0) : 1 ≤ sPop O := by
  rcases Nat.eq_zero_or_pos (sPop O) with q | q
  · exfalso
    rw [sPop_ct 8 O hO] at q
    apply h0
    apply Nat.eq_of_testBit_eq
    intro i
    rw [Nat.zero_testBit]
    by_cases z : i < 8
    · exact fb_ct_zero.mp q i z
    · exact Nat.testBit_lt_two_pow (Nat.lt_of_lt_of_le hO (Nat.pow_le_pow_right (n := 2) (i := 8) (by decide) (show 8 ≤ i by omega)))
  · exact q
theorem k63 (x : Nat) : 63 * 2 ^ (x % 12) < 262144 := by
  have h : 2 ^ (x % 12) ≤ 2 ^ 11 := Nat.pow_le_pow_right (by decide) (by omega)
  omega
theorem k63i (x : Nat) : nI 63 <<< (nI (x % 12) &&& 31) = nI (63 * 2 ^ (x % 12)) := nI_shl (by omega) (by have := k63 x; omega)
