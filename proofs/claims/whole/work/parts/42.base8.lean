/-! BASE 8: ones counted, bytes, the class's other cells, folds of the class -/
def ush (x y : Int32) : Int32 := (x.toUInt32 >>> (y.toUInt32 &&& Int32.toUInt32 31)).toInt32
def bc1 (x : Int32) : Int32 := x - (ush x (nI 1) &&& 1431655765)
def bc2 (x : Int32) : Int32 := (x &&& 858993459) + (ush x (nI 2) &&& 858993459)
def bc3 (x : Int32) : Int32 := (x + ush x (nI 4)) &&& 252645135
def bc4 (x : Int32) : Int32 := x + ush x (nI 8)
def bc5 (x : Int32) : Int32 := x + ush x (nI 16)
def sPopF : Nat → Nat → Nat
  | 0, _ => 0
  | f + 1, x => x % 2 + sPopF f (x / 2)
theorem sPopF_eq : ∀ f x, x < 2 ^ f → sPopF f x = sPop x
  | 0, x, h => by
    have h0 : x = 0 := by
      have h1 : x < 1 := h
      omega
    subst h0; rw [sPop_0]; rfl
  | f + 1, x, h => by
    have h1 : x / 2 < 2 ^ f := by rw [Nat.pow_succ] at h; omega
    have h2 := sPopF_eq f (x / 2) h1
    by_cases h0 : x = 0
    · subst h0; rw [sPop_0]; show 0 % 2 + sPopF f (0 / 2) = 0
      rw [h2, show 0 / 2 = 0 from rfl, sPop_0]
    · rw [sPop_s h0]; show x % 2 + sPopF f (x / 2) = _; rw [h2]
theorem bc_small0 : ∀ c, c < 64 → ∀ d, d < 64 → bc5 (bc4 (bc3 (bc2 (bc1 (nI (64 * c + d)))))) &&& nI 63 = nI (sPopF 12 (64 * c + d)) := by decide +kernel
theorem bc_small {x : Nat} (hx : x < 4096) : bc5 (bc4 (bc3 (bc2 (bc1 (nI x))))) &&& nI 63 = nI (sPop x) := by
  have h := bc_small0 (x / 64) (by omega) (x % 64) (by omega)
  rw [show 64 * (x / 64) + x % 64 = x by omega, sPopF_eq 12 x hx] at h
  exact h
/-- a byte as the machine reads it -/
def sb (n : Nat) : Int32 := (nI n).toInt8.toInt32
theorem sb_nar (n : Nat) : vp_nar .byte (sb n) = sb n := by
  show (sb n).toInt8.toInt32 = sb n
  unfold sb
  rw [Int8.toInt8_toInt32]
theorem sb_int : ∀ x, x < 256 → (sb x).toInt = if x < 128 then (x : Int) else (x : Int) - 256 := by decide +kernel
theorem sb_lt {x n : Nat} (hx : x < 256) (hn : n < 128) : sb x < nI n ↔ x < n ∨ 128 ≤ x := by
  rw [fa_lt, sb_int x hx, nI_toInt (by omega)]
  split <;> omega
theorem sb_gt {x n : Nat} (hx : x < 256) (hn : n < 128) : nI n < sb x ↔ n < x ∧ x < 128 := by
  rw [fa_lt, sb_int x hx, nI_toInt (by omega)]
  split <;> omega
theorem sb_le {x n : Nat} (hx : x < 256) (hn : n < 128) : nI n ≤ sb x ↔ n ≤ x ∧ x < 128 := by
  rw [fa_le, sb_int x hx, nI_toInt (by omega)]
  split <;> omega
theorem sb_eq {x n : Nat} (hx : x < 256) (hn : n < 128) : sb x = nI n ↔ x = n := by
  constructor
  · intro h
    have h1 : (sb x).toInt = (nI n).toInt := by rw [h]
    rw [sb_int x hx, nI_toInt (by omega)] at h1
    split at h1 <;> omega
  · intro h
    subst h
    apply (fa_eq _ _).mpr
    rw [sb_int x hx, nI_toInt (by omega), if_pos hn]
theorem sb_upd (f : Nat → Nat) (i v : Nat) : upd (fun j => sb (f j)) i (sb v) = fun j => sb (nset f i v j) := by
  funext j
  unfold upd nset
  split <;> rfl
theorem bI_inj {x y : Bool} (h : bI x = bI y) : x = y := by
  cases x <;> cases y <;> first | rfl | exact absurd h (by decide)
def xset (f : Nat → Int32) (i : Nat) (v : Int32) : Nat → Int32 := fun j => if j = i then v else f j
theorem wIn_out {x : Int32} {lo hi : Nat} (hl : lo < 2147483648) (hh : hi < 2147483648) (h : wIn x lo hi = false) : x.toInt < (lo : Int) ∨ (hi : Int) < x.toInt := by
  unfold wIn at h
  rcases Bool.and_eq_false_iff.mp h with q | q
  · left
    have := of_decide_eq_false q
    rw [fa_le, nI_toInt hl] at this
    omega
  · right
    have := of_decide_eq_false q
    rw [fa_le, nI_toInt hh] at this
    omega
/-- a without b's ones -/
theorem nI_andnot (x y : Nat) : nI x &&& (nI y ^^^ -1) = nI (x ^^^ (x &&& y)) := by
  rw [← fb_xorI, ← fa_and]
  apply Int32.toBitVec_inj.mp
  rw [Int32.toBitVec_and, Int32.toBitVec_xor, Int32.toBitVec_xor, Int32.toBitVec_and]
  rw [show (-1 : Int32).toBitVec = BitVec.allOnes 32 by decide]
  ext i hi
  simp only [BitVec.getElem_and, BitVec.getElem_xor, BitVec.getElem_allOnes]
  cases (nI x).toBitVec[i] <;> cases (nI y).toBitVec[i] <;> rfl
theorem andnot_bit (x y i : Nat) : (x ^^^ (x &&& y)).testBit i = (x.testBit i && !y.testBit i) := by
  rw [Nat.testBit_xor, Nat.testBit_and]
  cases x.testBit i <;> cases y.testBit i <;> rfl
theorem andnot_le (x y : Nat) : x ^^^ (x &&& y) ≤ x := by
  apply Nat.le_of_testBit
  intro i h
  rw [andnot_bit] at h
  exact (Bool.and_eq_true _ _ ▸ h).1
section BASE8
variable {p : Program} {l : Launch} {e : Env} {R : Room} {s : State} {m : MethodId} {args : Array Value} {below : List Frame} {meth : Method} {c : Code} {H : Heap} {locs : List Loc} {Q : State → Prop} {cells slots : Nat}
variable {cc : ByteArray} {nL pc index : Nat} {ls : Array Slot} {rest : List Value} {Ts : List Cond} {own : String} {D : va_G} {k : Nat → ClassId} {A : Nat → Prop} {ws : va_W} {a : Nat} {H0 : Heap}
theorem rbald (hz : CallFix p m c cc nL s args Ts own) (hK : va_K D vwCl (tyL k) s) (hP : va_P D vwCl ws H) (q0 t0 : Nat) {cA : ClassId} {n i : Nat} {f : Nat → Int32} (ha : ws[q0]? = some (a, .inl (cA, n, .inl f))) (ht : (tyL k)[t0]? = some (cA, .byte)) (hi : i < n) (hn : n < 2 ^ 31) {v : Int32} (hv : f i = v) (hdg : decode cc pc = .ok (.baload, 1))
    (kk : W p l e R s m args below meth c H locs cells slots Q (F0 m (pc + 1) ls (.int v :: rest))) : W p l e R s m args below meth c H locs cells slots Q (F0 m pc ls (.int (nI i) :: .ref a :: rest)) :=
  va_bald hz.1 hz.2.1 hK hP q0 t0 ha ht (vp_in_nI hi hn) hdg (by rw [nI_clamp (Nat.lt_trans hi hn), hv]; exact kk)
theorem rbast (hz : CallFix p m c cc nL s args Ts own) (hK : va_K D vwCl (tyL k) s) (hP : va_P D vwCl ws H) (hD : va_D A ws) (hS : va_S A H0 H locs) (q0 t0 : Nat) {cA : ClassId} {n i v : Nat} {f : Nat → Nat} (ha : ws[q0]? = some (a, .inl (cA, n, .inl (fun j => sb (f j))))) (ht : (tyL k)[t0]? = some (cA, .byte)) (hi : i < n) (hn : n < 2 ^ 31) (hdg : decode cc pc = .ok (.bastore, 1))
    (kk : ∀ (H1 : Heap) (locs1 : List Loc), va_P D vwCl (ws.set q0 (a, .inl (cA, n, .inl (fun j => sb (nset f i v j))))) H1 → va_S A H0 H1 locs1 → W p l e R s m args below meth c H1 locs1 cells slots Q (F0 m (pc + 1) ls rest)) : W p l e R s m args below meth c H locs cells slots Q (F0 m pc ls (.int (sb v) :: .int (nI i) :: .ref a :: rest)) :=
  va_bast hz.1 hz.2.1 hK hP hD hS q0 t0 ha ht (vp_in_nI hi hn) hdg (fun H1 locs1 h1 _ h3 => by rw [nI_clamp (Nat.lt_trans hi hn), sb_nar, sb_upd] at h1; exact kk H1 locs1 h1 h3)
/-- a place of the row of images -/
theorem rald3 (hz : CallFix p m c cc nL s args Ts own) (hK : va_K D vwCl (tyL k) s) (hP : va_P D vwCl ws H) (q0 : Nat) {n i v : Nat} {f : Nat → Option Nat} (ha : ws[q0]? = some (a, .inl (k 3, n, .inr (.inr (.inr (.inr f)))))) (hi : i < n) (hn : n < 2 ^ 31) (hv : f i = some v) (hdg : decode cc pc = .ok (.aaload, 1))
    (kk : W p l e R s m args below meth c H locs cells slots Q (F0 m (pc + 1) ls (.ref v :: rest))) : W p l e R s m args below meth c H locs cells slots Q (F0 m pc ls (.int (nI i) :: .ref a :: rest)) :=
  va_aldq hz.1 hz.2.1 hK hP q0 3 ha rfl (vp_in_nI hi hn) hdg (by rw [nI_clamp (Nat.lt_trans hi hn), hv]; exact kk)
end BASE8
def ho (a C : Nat → Nat) : va_W := [(a 0, .inr (5, [.ref (a 1), .ref (a 9), .ref (a 17), .ref (a 34), .ref (a 35), .ref (a 37), .ref (a 39), .ref (a 53), .int (nI (C 0)), .int (nI (C 1)), .int (nI (C 2))]))]
def tw (a : Nat → Nat) (k : Nat → ClassId) (X T : Nat → Nat) : va_W := [(a 35, .inr (1, [.int (nI (X 0)), .ref (a 36), .int (nI (X 1)), .int (nI (X 2)), .int (nI (X 3))])), (a 36, .inl (k 1, 200, .inl (fun i => sb (T i))))]
def qw (a Q : Nat → Nat) : va_W := [(a 53, .inr (2, [.long (lN (Q 0)), .long (lN (Q 1))]))]
def ww (a : Nat → Nat) (k : Nat → ClassId) (Z : Nat → Int32) (S Rr : Nat → Nat) : va_W := [(a 37, .inr (4, [.int (Z 0), .int (Z 1), .ref (a 38), .int (nI (S 0))])), (a 38, .inl (k 0, 8, .inl (fun i => nI (Rr i))))]
def iw (a : Nat → Nat) (k : Nat → ClassId) : va_W := [(a 17, .inl (k 3, 2, .inr (.inr (.inr (.inr (fun i => if i = 0 then some (a 18) else some (a 26)))))))]
def kw (a : Nat → Nat) (k : Nat → ClassId) (K : Nat → Nat) : va_W := [(a 34, .inl (k 2, 2, .inl (fun i => nI (K i))))]
/-! Euclid: 64 turns are enough -/
theorem eu_step {x y j : Nat} (hy : ¬ y = 0) (hx : x < 1000000) (hy2 : y < 1000000) (h : j = 0 ∨ (y < x ∧ x * y * 2 ^ j < 2 ^ 42)) : j + 1 = 0 ∨ (x % y < y ∧ y * (x % y) * 2 ^ (j + 1) < 2 ^ 42) := by
  have hm := Nat.mod_lt x (Nat.pos_of_ne_zero hy)
  refine Or.inr ⟨hm, ?_⟩
  rcases h with h | ⟨h1, h2⟩
  · subst h
    have a1 : y * (x % y) ≤ 1000000 * 1000000 := Nat.mul_le_mul (by omega) (by omega)
    omega
  · have hd := Nat.div_add_mod x y
    have hq : 1 ≤ x / y := (Nat.one_le_div_iff (Nat.pos_of_ne_zero hy)).mpr (by omega)
    have hyq : y * 1 ≤ y * (x / y) := Nat.mul_le_mul_left y hq
    have h3 : (x % y) * 2 ≤ x := by omega
    have h4 : y * (x % y) * 2 ^ (j + 1) = y * ((x % y) * 2) * 2 ^ j := by rw [Nat.pow_succ]; simp only [Nat.mul_assoc, Nat.mul_comm, Nat.mul_left_comm]
    rw [h4]
    refine Nat.lt_of_le_of_lt (Nat.mul_le_mul_right _ (Nat.mul_le_mul_left y h3)) ?_
    rw [Nat.mul_comm y x]; exact h2
theorem eu_end {x y : Nat} (h : 64 = 0 ∨ (y < x ∧ x * y * 2 ^ 64 < 2 ^ 42)) : y = 0 := by
  rcases h with h | ⟨h1, h2⟩
  · cases h
  · rcases Nat.eq_zero_or_pos y with q | q
    · exact q
    · exfalso
      have h3 : 1 * 1 ≤ x * y := Nat.mul_le_mul (by omega) q
      have h4 : 1 * 2 ^ 64 ≤ x * y * 2 ^ 64 := Nat.mul_le_mul_right _ h3
      have h5 : (2 : Nat) ^ 42 < 2 ^ 64 := by decide
      omega
/-! ones as a count -/
theorem sPop_ct : ∀ n x, x < 2 ^ n → sPop x = fb_ct (fun i => x.testBit i) n
  | 0, x, h => by
    have h0 : x = 0 := by
      have h1 : x < 1 := h
      omega
    subst h0; rw [sPop_0]; rfl
  | n + 1, x, h => by
    have h1 : x / 2 < 2 ^ n := by rw [Nat.pow_succ] at h; omega
    have h2 := sPop_ct n (x / 2) h1
    have h3 : sPop x = x % 2 + sPop (x / 2) := by
      by_cases h0 : x = 0
      · subst h0; rw [show 0 / 2 = 0 from rfl, sPop_0]
      · exact sPop_s h0
    rw [h3, h2, show n + 1 = 1 + n by omega, fb_ct_split]
    have h4 : fb_ct (fun i => x.testBit i) 1 = x % 2 := by
      rw [fb_ct_succ]
      show 0 + (if x.testBit 0 then 1 else 0) = x % 2
      rw [Nat.testBit_zero]
      rcases Nat.mod_two_eq_zero_or_one x with q | q <;> simp [q]
    rw [h4]
    congr 1
    apply fb_ct_cong
    intro i _
    rw [Nat.add_comm 1 i, Nat.testBit_succ]
theorem sSpan_lt2 {n w l : Nat} (hn1 : 1 ≤ n) : sSpan n w l < 2 ^ n := by
  unfold sSpan
  have h : 2 ^ (min (n - 1) (w + l) + 1) ≤ 2 ^ n := Nat.pow_le_pow_right (by decide) (by omega)
  have h2 := Nat.two_pow_pos (w + 1 - l)
  have h3 := Nat.two_pow_pos n
  omega
theorem sReach_lt2 {M : Nat → Nat} (hf : Wf M) (w s : Nat) : sReach M w s < 2 ^ M 0 := sSpan_lt2 (by have := hf.n2; omega)
theorem sReach_pop {M : Nat → Nat} (hf : Wf M) {w s : Nat} (hw : w < M 0 - 1) (hs : s ≤ 3) : sPop (sReach M w s) = fb_ct (fun p => sHears M p w s) (M 0) := by
  rw [sPop_ct (M 0) _ (sReach_lt2 hf w s)]
  exact fb_ct_cong (fun p hp => sReach_bit hf hp hw hs)
theorem sReach_and {M : Nat → Nat} (hf : Wf M) {w s st : Nat} (hw : w < M 0 - 1) (hs : s ≤ 3) : sPop (sReach M w s &&& st) = fb_ct (fun p => st.testBit p && sHears M p w s) (M 0) := by
  rw [sPop_ct (M 0) _ (Nat.lt_of_le_of_lt Nat.and_le_left (sReach_lt2 hf w s))]
  apply fb_ct_cong
  intro p hp
  rw [Nat.testBit_and, sReach_bit hf hp hw hs, Bool.and_comm]
theorem sDf_is {M : Nat → Nat} (hf : Wf M) {w st : Nat} (hw : w < M 0 - 1) (hs : st ≤ 3) : M 0 - sPop (sReach M w (sStr st)) = sDfN M w st ∧ sPop (sReach M w (sStr st)) ≤ M 0 := by
  rw [sReach_pop hf hw (sStr_in hs).2]
  have h := fb_ct_not (fun p => sHears M p w (sStr st)) (M 0)
  unfold sDfN
  omega
theorem sLoud_cut {kd s : Nat} (h : kd = 4) : sLoud kd s = 0 := by subst h; rfl
theorem sMeet_is {M : Nat → Nat} (hf : Wf M) {v w : Nat} (hv : v < M 0 - 1) (hw : w < M 0 - 1) : sMeet M v w = sTog M v w := by
  have hcut : ∀ p w, M (3 + w) = 4 → sHears M p w 2 = false := fun p w h => by
    unfold sHears; rw [sLoud_cut h]; exact decide_eq_false (Nat.not_lt_zero _)
  have h1 : sMeet M v w = sAny (sTgF M v w) (M 0) := by
    unfold sMeet
    cases hq : sAny (sTgF M v w) (M 0) with
    | true =>
      apply decide_eq_true
      intro h0
      have : ∀ n, n ≤ M 0 → sAny (sTgF M v w) n = false := by
        intro n
        induction n with
        | zero => intro _; rfl
        | succ n ih =>
          intro hn
          simp only [sAny, ih (by omega), Bool.false_or, sTgF]
          rw [← sReach_bit hf (by omega) hv (by decide), ← sReach_bit hf (by omega) hw (by decide), ← Nat.testBit_and, h0, Nat.zero_testBit]
      rw [this _ (Nat.le_refl _)] at hq
      cases hq
    | false =>
      apply decide_eq_false
      intro h0
      obtain ⟨p, hp⟩ := Nat.exists_testBit_of_ne_zero h0
      have hlt : p < M 0 := by
        apply Nat.lt_of_not_le
        intro hle
        have : (sReach M v 2 &&& sReach M w 2).testBit p = false := Nat.testBit_lt_two_pow (Nat.lt_of_lt_of_le (Nat.lt_of_le_of_lt Nat.and_le_left (sReach_lt2 hf v 2)) (Nat.pow_le_pow_right (by decide) hle))
        rw [this] at hp; cases hp
      rw [Nat.testBit_and, sReach_bit hf hlt hv (by decide), sReach_bit hf hlt hw (by decide)] at hp
      have := sAny_yes (f := sTgF M v w) (i := p) hp (M 0) hlt
      rw [this] at hq; cases hq
  rw [h1]
  unfold sTog
  by_cases a : M (3 + v) = 4
  · have : sAny (sTgF M v w) (M 0) = false := by
      generalize M 0 = n
      induction n with
      | zero => rfl
      | succ n ih => simp [sAny, ih, sTgF, hcut n v a]
    rw [this]; rfl
  · by_cases b : M (3 + w) = 4
    · have : sAny (sTgF M v w) (M 0) = false := by
        generalize M 0 = n
        induction n with
        | zero => rfl
        | succ n ih => simp [sAny, ih, sTgF, hcut n w b]
      rw [this]; rfl
    · simp [a, b]
/-! clashes: the other order -/
theorem sm_swap (P : Nat → Nat → Bool) (m : Nat) : ∀ n, fb_sm (fun v => fb_ct (P v) m) n = fb_sm (fun w => fb_ct (fun v => P v w) n) m
  | 0 => by
    show 0 = _
    induction m with
    | zero => rfl
    | succ m ih => rw [fb_sm_succ, ← ih]; rfl
  | n + 1 => by
    rw [fb_sm_succ, sm_swap P m n]
    have : ∀ m, fb_sm (fun w => fb_ct (fun v => P v w) n) m + fb_ct (P n) m = fb_sm (fun w => fb_ct (fun v => P v w) (n + 1)) m := by
      intro m
      induction m with
      | zero => rfl
      | succ m ih =>
        rw [fb_sm_succ, fb_sm_succ, ← ih, fb_ct_succ, fb_ct_succ]
        omega
    exact this m
theorem ct_below (q : Nat → Bool) {w : Nat} : ∀ n, w ≤ n → fb_ct (fun v => decide (v < w) && q v) n = fb_ct q w
  | n, h => by
    obtain ⟨d, rfl⟩ : ∃ d, n = w + d := ⟨n - w, by omega⟩
    rw [fb_ct_split]
    have h1 : fb_ct (fun v => decide (v < w) && q v) w = fb_ct q w := fb_ct_cong (fun v hv => by rw [decide_eq_true hv]; rfl)
    have h2 : fb_ct (fun v => decide (w + v < w) && q (w + v)) d = 0 := fb_ct_none (fun v _ => by rw [decide_eq_false (by omega)]; rfl)
    rw [h1, h2]; rfl
def kClF (M : Nat → Nat) (w v : Nat) : Bool := sMeet M v w && decide (sNote M v = sNote M w)
theorem sClash_is {M : Nat → Nat} (hf : Wf M) : fb_sm (fun w => fb_ct (kClF M w) w) (M 0 - 1) = sClash M := by
  unfold sClash
  rw [sm_swap]
  apply fb_sm_cong
  intro w hw
  rw [← ct_below (kClF M w) (M 0 - 1) (by omega)]
  apply fb_ct_cong
  intro v hv
  unfold kClF sClF
  rw [sMeet_is hf hv hw, Bool.and_comm (sTog M v w)]
/-! which: the first is the only one -/
theorem sWh_no {P : Nat → Bool} {x : Int32} : ∀ n, (∀ j, j < n → P j = true → ¬ nI (fb_ct P j) = x) → sWhF P x n = -5
  | 0, _ => rfl
  | n + 1, h => by rw [sWhF0 (fun q => h n (by omega) q.1 q.2)]; exact sWh_no n (fun j hj => h j (by omega))
theorem sWh_hit {P : Nat → Bool} {x : Int32} {j : Nat} (h1 : P j = true) (h2 : nI (fb_ct P j) = x) : ∀ d, j + 1 + d < 1000 → sWhF P x (j + 1 + d) = nI (10 * (j / 4) + j % 4)
  | 0, _ => by rw [sWhF, if_pos ⟨h1, h2⟩]
  | d + 1, hd => by
    rw [show j + 1 + (d + 1) = (j + 1 + d) + 1 by omega, sWhF0, sWh_hit h1 h2 d (by omega)]
    rintro ⟨-, q⟩
    have hm := fb_ct_mono P (m := j + 1) (n := j + 1 + d) (by omega)
    have h3 := fb_ct1 (p := P) (n := j) h1
    have l1 := fb_ct_le P j
    have l2 := fb_ct_le P (j + 1 + d)
    have h4 := (nI_eq (a := fb_ct P (j + 1 + d)) (b := fb_ct P j) (by omega) (by omega)).mp (q.trans h2.symm)
    omega
theorem nI_neg1 {n : Nat} (h : n < 2147483648) : ¬ nI n = -1 := fun q => by
  have h1 : (nI n).toInt = (-1 : Int32).toInt := by rw [q]
  rw [nI_toInt h, show (-1 : Int32).toInt = -1 by decide] at h1
  omega
theorem oI_le {x y : Option Nat} (hx : ∀ j, x = some j → j < 2147483648) (hy : ∀ j, y = some j → j < 2147483648) : oI x ≤ oI y ↔ oLt y x = false := by
  have hm : (-1 : Int32).toInt = -1 := by decide
  cases x with
  | none =>
    cases y with
    | none => simp [oI, oLt]
    | some q =>
      have hb := hy q rfl
      have h : oI none ≤ oI (some q) := by rw [fa_le]; show (-1 : Int32).toInt ≤ (nI q).toInt; rw [nI_toInt hb, hm]; omega
      simp [oLt, h]
  | some z =>
    have ha := hx z rfl
    cases y with
    | none =>
      have h : ¬ oI (some z) ≤ oI none := by rw [fa_le]; show ¬ (nI z).toInt ≤ (-1 : Int32).toInt; rw [nI_toInt ha, hm]; omega
      simp [oLt, h]
    | some q =>
      have hb := hy q rfl
      show nI z ≤ nI q ↔ _
      rw [nI_leI ha hb]; simp [oLt]
/-! doubled: a gain -/
def kNow (M : Nat → Nat) (w : Nat) : Nat := fb_ct (fun p => sHears M p w 1) (M 0)
def kThen (M : Nat → Nat) (w : Nat) : Nat := fb_ct (fun p => decide (sFar p w < 3)) (M 0)
theorem kNow_le (M : Nat → Nat) (w : Nat) : kNow M w ≤ kThen M w := by
  apply fb_ct_sub
  intro p _ h
  have h1 := of_decide_eq_true h
  have h2 := sLoud_le (M (3 + w)) 1
  exact decide_eq_true (by omega)
theorem kPairs {M : Nat → Nat} {w : Nat} (hw : w < M 0 - 1) : sPairs (nset M (3 + w) 1) = sPairs M + (kThen M w - kNow M w) := by
  have e0 : nset M (3 + w) 1 0 = M 0 := nset_ne M 1 (by omega)
  have h1 : sPairs (nset M (3 + w) 1) = fb_sm (fun v => if v = w then kThen M w else sPrF M v) (M 0 - 1) := by
    unfold sPairs
    rw [e0]
    apply fb_sm_cong
    intro v hv
    by_cases q : v = w
    · subst q
      rw [if_pos rfl]
      unfold sPrF kThen
      rw [e0]
      apply fb_ct_cong
      intro p _
      unfold sHears
      rw [nset_same]
      rfl
    · rw [if_neg q]
      unfold sPrF
      rw [e0]
      apply fb_ct_cong
      intro p _
      unfold sHears
      rw [nset_ne M 1 (by omega)]
  have h2 := fb_sm_upd (sPrF M) (kThen M w) hw
  have h3 : sPrF M w = kNow M w := rfl
  have h4 := kNow_le M w
  rw [h1]
  unfold sPairs
  omega
theorem kThen_is {M : Nat → Nat} (hf : Wf M) {w : Nat} (hw : w < M 0 - 1) : sPop (sSpan (M 0) w 3) = kThen M w := by
  rw [sPop_ct (M 0) _ (sSpan_lt2 (by have := hf.n2; omega))]
  exact fb_ct_cong (fun p hp => sSpan_bit hf.n9 hw (by decide) hp)
def kDb (M : Nat → Nat) (w : Nat) : Nat × Option Nat := sDb (fun w => sPairs (nset M (3 + w) 1)) (sPairs M) w
theorem kDb_ge (M : Nat → Nat) : ∀ w, sPairs M ≤ (kDb M w).1
  | 0 => Nat.le_refl _
  | w + 1 => by
    have h := kDb_ge M w
    unfold kDb at h ⊢
    rw [sDb]
    split
    · show sPairs M ≤ sPairs (nset M (3 + w) 1); omega
    · exact h
theorem kDb_lt (M : Nat → Nat) : ∀ w j, (kDb M w).2 = some j → j < w
  | 0, j, h => by cases h
  | w + 1, j, h => by
    unfold kDb at h
    rw [sDb] at h
    split at h
    · cases h; omega
    · have := kDb_lt M w j h; omega
theorem kDb_1 {M : Nat → Nat} {w : Nat} (hw : w < M 0 - 1) (h : (kDb M w).1 - sPairs M < kThen M w - kNow M w) : (kDb M (w + 1)).2 = some w ∧ (kDb M (w + 1)).1 - sPairs M = kThen M w - kNow M w := by
  have h1 := kPairs hw
  have h2 := kDb_ge M w
  have h3 : (kDb M w).1 < sPairs (nset M (3 + w) 1) := by omega
  unfold kDb at h3 ⊢
  rw [sDb, if_pos h3]
  exact ⟨rfl, by show sPairs (nset M (3 + w) 1) - sPairs M = _; omega⟩
theorem kDb_0 {M : Nat → Nat} {w : Nat} (hw : w < M 0 - 1) (h : ¬ (kDb M w).1 - sPairs M < kThen M w - kNow M w) : kDb M (w + 1) = kDb M w := by
  have h1 := kPairs hw
  have h2 := kDb_ge M w
  have h3 : ¬ (kDb M w).1 < sPairs (nset M (3 + w) 1) := by omega
  unfold kDb at h3 ⊢
  rw [sDb, if_neg h3]
