/-! BASE 9: static methods that read cells; reaches that are kept; who is noticed -/
section BASE9
variable {p : Program} {l : Launch} {e : Env} {R : Room} {s : State} {m : MethodId} {args : Array Value} {below : List Frame} {meth : Method} {c : Code} {H : Heap} {locs : List Loc} {Q : State → Prop} {cells slots : Nat}
variable {cc bytes : ByteArray} {nL maxL pc index n : Nat} {ls : Array Slot} {rest st0 As : List Value} {Ts wsC wsC' : List Cond} {own : String} {y : MethodName} {rm : Room} {ret : Option FieldType} {Y : (Nat → Prop) → State → Heap → Prop} {D : va_G} {k : Nat → ClassId} {wc : va_W} {r : Int32} {A : Nat → Prop}
theorem rdSW (hz : CallFix p m c cc nL s args Ts own) (hY : okY Y) (hM : Met l y wsC rm (va_Pc As (wH Y D k wc)) (QcRead r) 0 0 (fun _ => False)) (cw : CallB R s args own index y bytes maxL ret wsC rm 0 0 n ∧ (Cond.static y).before args s = true)
    (hK : va_K D vwCl (tyL k) s) (hy : Y A s s.heap) (hP : va_P D vwCl wc H) (hD : va_D A wc) (hS : va_S A s.heap H locs)
    (hn : As.length = n) (hsz : ls.size = nL) (hst : st0 = As.reverse ++ rest) (hW : (rest.map fun v => v.category).sum ≤ 8) (hdg : decode cc pc = .ok (.invokestatic index, 3)) (hf : cells ≤ R.cells ∧ slots ≤ R.slots)
    (kk : W p l e R s m args below meth c H locs cells slots Q (F0 m (pc + 3) ls (.int r :: rest))) : W p l e R s m args below meth c H locs cells slots Q (F0 m pc ls st0) :=
  W.callR (W.runS (As := As) (rest := rest) (g := F0 m pc ls st0) hz hM cw ⟨wH.blind hY, fun U hU hWm => ⟨rfl, by rw [hU]; exact hP, va_K.moved hWm.alike hK, hD.any, wY hY hy hD hS hU hWm⟩⟩ rfl hn hsz hst (lv_room hW) hdg hf) kk
end BASE9
def kSt (M : Nat → Nat) (w : Nat) : Bool := !decide (M (3 + w) = 4)
def lrR (M R0 : Nat → Nat) : Nat → Nat → Nat
  | 0 => R0
  | w + 1 => if kSt M w then nset (lrR M R0 w) (fb_ct (kSt M) w) (sReach M w 1) else lrR M R0 w
theorem lrR_le {M : Nat → Nat} (hf : Wf M) (R0 : Nat → Nat) : ∀ w i, i < fb_ct (kSt M) w → lrR M R0 w i ≤ 512
  | 0, i, h => absurd h (Nat.not_lt_zero _)
  | w + 1, i, h => by
    rw [fb_ct_succ] at h
    rw [lrR]
    by_cases q : kSt M w = true
    · rw [if_pos q] at h ⊢
      by_cases e : i = fb_ct (kSt M) w
      · subst e; rw [nset_same]; exact sReach_lt hf w 1
      · rw [nset_ne _ _ e]; exact lrR_le hf R0 w i (by omega)
    · rw [if_neg q] at h ⊢; exact lrR_le hf R0 w i h
def kCv (R : Nat → Nat) (ps kk i : Nat) : Bool := decide (kk ≤ sPop (R i &&& ps))
theorem sAll_no9 {f : Nat → Bool} {i : Nat} (h : f i = false) : ∀ n, i < n → sAll f n = false
  | 0, q => absurd q (Nat.not_lt_zero _)
  | n + 1, q => by
    by_cases e : i = n
    · subst e; simp [sAll, h]
    · simp [sAll, sAll_no9 h n (by omega)]
theorem sAll_cong {f g : Nat → Bool} : ∀ n, (∀ i, i < n → f i = g i) → sAll f n = sAll g n
  | 0, _ => rfl
  | n + 1, h => by rw [sAll, sAll, sAll_cong n (fun i hi => h i (by omega)), h n (by omega)]
theorem sAll_mono {f g : Nat → Bool} : ∀ n, (∀ i, i < n → f i = true → g i = true) → sAll f n = true → sAll g n = true
  | 0, _, _ => rfl
  | n + 1, h, q => by
    rw [sAll, Bool.and_eq_true] at q
    rw [sAll, sAll_mono n (fun i hi => h i (by omega)) q.1, h n (by omega) q.2]; rfl
theorem lr_cov {M : Nat → Nat} (hf : Wf M) (R0 : Nat → Nat) (ps kk : Nat) : ∀ w, w ≤ M 0 - 1 → sAll (kCv (lrR M R0 w) ps kk) (fb_ct (kSt M) w) = sAll (sCvW M ps kk) w
  | 0, _ => rfl
  | w + 1, h => by
    have ih := lr_cov hf R0 ps kk w (by omega)
    rw [fb_ct_succ, lrR]
    by_cases q : kSt M w = true
    · rw [if_pos q, if_pos q]
      have hne : decide (M (3 + w) = 4) = false := by unfold kSt at q; simpa using q
      show (sAll _ (fb_ct (kSt M) w) && kCv _ ps kk (fb_ct (kSt M) w)) = (sAll _ w && sCvW M ps kk w)
      rw [← ih]
      congr 1
      · apply sAll_cong
        intro i hi
        unfold kCv
        rw [nset_ne _ _ (by omega)]
      · unfold kCv sCvW
        rw [nset_same, hne, Bool.false_or, sReach_and hf (by omega) (by decide)]
        rfl
    · rw [if_neg q, if_neg q]
      have hc : sCvW M ps kk w = true := by
        unfold kSt at q
        unfold sCvW
        simp at q
        simp [q]
      show sAll _ (fb_ct (kSt M) w) = (sAll _ w && sCvW M ps kk w)
      rw [hc, Bool.and_true]
      exact ih
theorem cov_top {M : Nat → Nat} {ps kk : Nat} (hc : sCovers M ps kk = true) : sCovers M (2 ^ M 0 - 1) kk = true := by
  unfold sCovers at hc ⊢
  refine sAll_mono _ (fun w hw h => ?_) hc
  unfold sCvW at h ⊢
  rcases Bool.or_eq_true_iff.mp h with h | h
  · rw [h]; rfl
  · have h1 := of_decide_eq_true h
    have h2 : fb_ct (sCvF M ps w) (M 0) ≤ fb_ct (sCvF M (2 ^ M 0 - 1) w) (M 0) := by
      apply fb_ct_sub
      intro p hp q
      unfold sCvF at q ⊢
      rw [Bool.and_eq_true] at q
      rw [q.2, Nat.testBit_two_pow_sub_one, decide_eq_true hp]; rfl
    rw [decide_eq_true (Nat.le_trans h1 h2), Bool.or_true]
theorem sCov_none {C : Nat → Bool} : ∀ n, (∀ s, s < n → C s = false) → sCov C n = none
  | 0, _ => rfl
  | n + 1, h => sCov_n0 (sCov_none n (fun s hs => h s (by omega))) (h n (by omega))
theorem cov_no {M : Nat → Nat} {kk : Nat} (h : sCovers M (2 ^ M 0 - 1) kk = false) : sCover M kk = none := by
  apply sCov_none
  intro s _
  cases hq : sCovers M s kk with
  | false => rfl
  | true => rw [cov_top hq] at h; cases h
def kBst (o : Option Nat) (d : Nat) : Nat := match o with
  | none => d
  | some t => t
theorem sPop_all (n : Nat) : sPop (2 ^ n - 1) = n := by
  have h := Nat.two_pow_pos n
  rw [sPop_ct n _ (by omega)]
  exact fb_ct_all.mpr (fun k hk => by rw [Nat.testBit_two_pow_sub_one]; exact decide_eq_true hk)
theorem sPop_len {n s : Nat} (h : s < 2 ^ n) : sPop s ≤ n := by rw [sPop_ct n s h]; exact fb_ct_le _ _
theorem sPop_lt {n s : Nat} (h : s < 2 ^ n - 1) : sPop s < n := by
  have h0 := Nat.two_pow_pos n
  have h1 : s < 2 ^ n := by omega
  refine Nat.lt_of_le_of_ne (sPop_len h1) (fun q => ?_)
  rw [sPop_ct n s h1] at q
  have q2 := fb_ct_all.mp q
  have : s = 2 ^ n - 1 := by
    apply Nat.eq_of_testBit_eq
    intro i
    rw [Nat.testBit_two_pow_sub_one]
    by_cases hi : i < n
    · rw [decide_eq_true hi]; exact q2 i hi
    · rw [decide_eq_false hi]; exact Nat.testBit_lt_two_pow (Nat.lt_of_lt_of_le h1 (Nat.pow_le_pow_right (by decide) (by omega)))
  omega
theorem kB_0 {C : Nat → Bool} {n s : Nat} (hs : s < 2 ^ n - 1) (h : ¬ sPop s < sPop (kBst (sCov C s) (2 ^ n - 1)) ∨ C s = false) : kBst (sCov C (s + 1)) (2 ^ n - 1) = kBst (sCov C s) (2 ^ n - 1) := by
  cases hq : sCov C s with
  | none =>
    rw [hq] at h
    have h2 : C s = false := by
      rcases h with h | h
      · exfalso; apply h; show sPop s < sPop (2 ^ n - 1); rw [sPop_all]; exact sPop_lt hs
      · exact h
    rw [sCov_n0 hq h2]
  | some t =>
    rw [hq] at h
    rw [sCov_s0 hq (fun q => by
      rcases h with h | h
      · exact h q.1
      · rw [h] at q; cases q.2)]
theorem kB_1 {C : Nat → Bool} {n s : Nat} (h1 : sPop s < sPop (kBst (sCov C s) (2 ^ n - 1))) (h2 : C s = true) : kBst (sCov C (s + 1)) (2 ^ n - 1) = s := by
  cases hq : sCov C s with
  | none => rw [sCov_n1 hq h2]; rfl
  | some t => rw [hq] at h1; rw [sCov_s1 hq h1 h2]; rfl
theorem kB_end {C : Nat → Bool} {n : Nat} (h : C (2 ^ n - 1) = true) : oI (sCov C (2 ^ n)) = nI (kBst (sCov C (2 ^ n - 1)) (2 ^ n - 1)) := by
  have h0 := Nat.two_pow_pos n
  have hp : ∀ t, t < 2 ^ n - 1 → ¬ sPop (2 ^ n - 1) < sPop t := fun t ht q => by
    rw [sPop_all] at q; have := sPop_lt ht; omega
  obtain ⟨z, hz⟩ : ∃ z, 2 ^ n = z + 1 := ⟨2 ^ n - 1, by omega⟩
  rw [hz] at h hp ⊢
  rw [Nat.add_sub_cancel] at h hp ⊢
  cases hq : sCov C z with
  | none => rw [sCov_n1 hq h]; rfl
  | some t => rw [sCov_s0 hq (fun q => hp t (sCov_lt hq) q.1)]; rfl
theorem kB_le {C : Nat → Bool} {n : Nat} : ∀ s, s ≤ 2 ^ n - 1 → kBst (sCov C s) (2 ^ n - 1) ≤ 2 ^ n - 1 := by
  intro s hs
  cases hq : sCov C s with
  | none => exact Nat.le_refl _
  | some t => have := sCov_lt hq; show t ≤ _; omega
/-! slip -/
def gI (s : Nat × Option Nat) : Int32 := match s.2 with
  | none => -1
  | some _ => nI s.1
def sOK (s : Nat × Option Nat) : Prop := (s.2 = none ∧ s.1 = 100) ∨ (¬ s.2 = none ∧ s.1 ≤ 9)
theorem gI_some {s : Nat × Option Nat} (h : ¬ s.2 = none) : gI s = nI s.1 := by
  unfold gI
  cases hq : s.2 with
  | none => exact absurd hq h
  | some _ => rfl
theorem gI_none {s : Nat × Option Nat} (h : sOK s) : gI s = -1 ↔ s.2 = none := by
  constructor
  · intro q
    rcases h with h | h
    · exact h.1
    · rw [gI_some h.1] at q; exact absurd q (nI_neg1 (by omega))
  · intro q; unfold gI; rw [q]
theorem sSlC_in {M : Nat → Nat} (hf : Wf M) (m w : Nat) : sSlC M m w = 100 ∨ sSlC M m w ≤ 9 := by
  unfold sSlC
  split
  · exact Or.inl rfl
  · exact Or.inr (sNoticed_le hf m w)
theorem sSlW_OK {M : Nat → Nat} (hf : Wf M) {mn : Nat} {s0 : Nat × Option Nat} (h : sOK s0) : ∀ w, sOK (sSlW (sSlC M mn) mn s0 w)
  | 0 => h
  | w + 1 => by
    have ih := sSlW_OK hf (mn := mn) h w
    rw [sSlW]
    by_cases q : sSlC M mn w < (sSlW (sSlC M mn) mn s0 w).1
    · rw [if_pos q]
      refine Or.inr ⟨by simp, ?_⟩
      have := sSlC_in hf mn w
      show sSlC M mn w ≤ 9
      unfold sOK at ih
      omega
    · rw [if_neg q]; exact ih
theorem sSlM_OK {M : Nat → Nat} (hf : Wf M) (n : Nat) : ∀ m, sOK (sSlM (sSlC M) n m)
  | 0 => Or.inl ⟨rfl, rfl⟩
  | m + 1 => sSlW_OK hf (sSlM_OK hf n m) n
theorem sSlW_0 {c : Nat → Nat} {m w : Nat} {s0 : Nat × Option Nat} (h : ¬ c w < (sSlW c m s0 w).1) : sSlW c m s0 (w + 1) = sSlW c m s0 w := by rw [sSlW, if_neg h]
theorem sSlW_1 {c : Nat → Nat} {m w : Nat} {s0 : Nat × Option Nat} (h : c w < (sSlW c m s0 w).1) : sSlW c m s0 (w + 1) = (c w, some (100 * m + w)) := by rw [sSlW, if_pos h]
theorem sSlW_min {c : Nat → Nat} {m : Nat} {s0 : Nat × Option Nat} : ∀ w v, v < w → (sSlW c m s0 w).1 ≤ c v
  | 0, v, h => absurd h (Nat.not_lt_zero _)
  | w + 1, v, h => by
    by_cases q : c w < (sSlW c m s0 w).1
    · rw [sSlW_1 q]
      by_cases e : v = w
      · subst e; exact Nat.le_refl _
      · have := sSlW_min (c := c) (m := m) (s0 := s0) w v (by omega); show c w ≤ c v; omega
    · rw [sSlW_0 q]
      by_cases e : v = w
      · subst e; omega
      · exact sSlW_min w v (by omega)
theorem sSlW_skip {c : Nat → Nat} {m : Nat} {s0 : Nat × Option Nat} : ∀ w, (∀ v, v < w → s0.1 ≤ c v) → sSlW c m s0 w = s0
  | 0, _ => rfl
  | w + 1, h => by
    have ih := sSlW_skip (c := c) (m := m) (s0 := s0) w (fun v hv => h v (by omega))
    rw [sSlW_0 (by rw [ih]; have := h w (by omega); omega), ih]
def kQ (M : Nat → Nat) (mn : Nat) : Bool := sAny (fun z_ => decide (M (20 + 2 * z_) = mn)) (M 19)
theorem quiet_windy {M : Nat → Nat} {mn : Nat} (h : kQ M mn = false) (w : Nat) : sWindy M mn w = false := by
  unfold kQ at h
  unfold sWindy
  revert h
  generalize M 19 = n
  induction n with
  | zero => intro _; rfl
  | succ n ih =>
    intro h
    simp only [sAny, Bool.or_eq_false_iff] at h
    simp only [sAny, ih h.1, Bool.false_or, sWdF]
    rw [h.2]; rfl
theorem quiet_cost {M : Nat → Nat} {m m' : Nat} (h : kQ M m = false) (h' : kQ M m' = false) (w : Nat) : sSlC M m w = sSlC M m' w := by
  unfold sSlC
  split
  · rfl
  · unfold sNoticed
    apply fb_ct_cong
    intro p _
    unfold sNtF
    rw [quiet_windy h, quiet_windy h']
theorem noticed_n {M : Nat → Nat} (hf : Wf M) {mn w : Nat} (hw : w < M 0 - 1) (h : sWindy M mn w = false) : sPop (M 2 &&& sReach M w 2) = sNoticed M mn w := by
  rw [sPop_ct (M 0) _ (Nat.lt_of_le_of_lt Nat.and_le_left hf.2.2.1)]
  apply fb_ct_cong
  intro p hp
  unfold sNtF
  rw [Nat.testBit_and, sReach_bit hf hp hw (by decide), h, Bool.false_and, Bool.not_false, Bool.and_true]
theorem noticed_b {M : Nat → Nat} (hf : Wf M) {mn w : Nat} (hw : w < M 0 - 1) (h : sWindy M mn w = true) : sPop ((M 2 &&& sReach M w 2) ^^^ ((M 2 &&& sReach M w 2) &&& sReach M w 1)) = sNoticed M mn w := by
  rw [sPop_ct (M 0) _ (Nat.lt_of_le_of_lt (Nat.le_trans (andnot_le _ _) Nat.and_le_left) hf.2.2.1)]
  apply fb_ct_cong
  intro p hp
  unfold sNtF
  rw [andnot_bit, Nat.testBit_and, sReach_bit hf hp hw (by decide), sReach_bit hf hp hw (by decide), h, Bool.true_and]
theorem du_max {p q : Nat} (h1 : p ≤ 100) (h2 : q ≤ 100) : (if nI 1 < nI (100 * p + 100 * q - p * q) then nI (100 * p + 100 * q - p * q) else nI 1) = nI (sDu p q) := by
  have h3 : 100 * p + 100 * q - p * q < 100000 := by omega
  unfold sDu
  by_cases h : 100 * p + 100 * q - p * q = 0
  · rw [if_pos h, h, if_neg (by decide)]
  · rw [if_neg h]
    by_cases hq : 1 < 100 * p + 100 * q - p * q
    · rw [if_pos ((nI_ltI (by decide) (by omega)).mpr hq)]
    · rw [if_neg (fun z => hq ((nI_ltI (by decide) (by omega)).mp z)), show 100 * p + 100 * q - p * q = 1 by omega]
theorem bI_or0 (q : Bool) : bI q ||| nI 0 = bI q := by cases q <;> decide
theorem bI_or1 (q : Bool) : bI q ||| nI 1 = bI true := by cases q <;> decide
theorem slipA0 {M : Nat → Nat} {wh : Nat} (h : wh = 0) : gI (sSlip M) = sSlipA M wh := by
  subst h
  unfold sSlipA
  cases hq : (sSlip M).2 with
  | none => rw [if_pos (Or.inr rfl)]; unfold gI; rw [hq]; rfl
  | some j => rw [if_neg (fun z => by rcases z with z | z <;> cases z)]; exact gI_some (by rw [hq]; simp)
