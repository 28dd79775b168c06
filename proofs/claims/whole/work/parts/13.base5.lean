/-! BASE 5: an answer that may be none; longs -/
def oI (o : Option Nat) : Int32 := match o with
  | none => -1
  | some j => nI j
def oL (o : Option Nat) : Int64 := match o with
  | none => -1
  | some j => lN j
/-- less, none being below all -/
def oLt (x y : Option Nat) : Bool := match x, y with
  | _, none => false
  | none, some _ => true
  | some a, some b => decide (a < b)
theorem oI_none {o : Option Nat} (ho : ∀ j, o = some j → j < 2147483648) : oI o = -1 ↔ o = none := by
  cases o with
  | none => exact ⟨fun _ => rfl, fun _ => rfl⟩
  | some j =>
    refine ⟨fun h => ?_, fun h => by cases h⟩
    have hj := ho j rfl
    have h1 : (nI j).toInt = (-1 : Int32).toInt := by rw [show nI j = -1 from h]
    rw [nI_toInt hj] at h1
    have h2 : (-1 : Int32).toInt = -1 := by decide
    omega
theorem lN_ne0 {b : Nat} (h0 : 0 < b) (h : b < 9223372036854775808) : ¬ lN b = 0 := fun q => by
  have h1 := (pk_lEQ h (by decide : 0 < 2 ^ 63)).mp q
  omega
theorem oL_lt {x y : Option Nat} (hx : ∀ j, x = some j → j < 9223372036854775808) (hy : ∀ j, y = some j → j < 9223372036854775808) : oL x < oL y ↔ oLt x y = true := by
  have hm : (-1 : Int64).toInt = -1 := by decide
  cases x with
  | none =>
    cases y with
    | none => simp [oL, oLt]
    | some b =>
      have hb := hy b rfl
      have h : oL none < oL (some b) := by rw [fa_lt64]; show (-1 : Int64).toInt < (lN b).toInt; rw [pk_lT hb, hm]; omega
      simp [oLt, h]
  | some a =>
    have ha := hx a rfl
    cases y with
    | none =>
      have h : ¬ oL (some a) < oL none := by rw [fa_lt64]; show ¬ (lN a).toInt < (-1 : Int64).toInt; rw [pk_lT ha, hm]; omega
      simp [oLt, h]
    | some b =>
      have hb := hy b rfl
      show lN a < lN b ↔ _
      rw [pk_lLT ha hb]; simp [oLt]
section BASE5
variable {p : Program} {l : Launch} {e : Env} {R : Room} {s : State} {m : MethodId} {args : Array Value} {below : List Frame} {meth : Method} {c : Code} {H : Heap} {locs : List Loc} {Q : State → Prop} {cells slots : Nat}
variable {cc : ByteArray} {nL pc tgt x y : Nat} {off : Int} {ls : Array Slot} {rest : List Value} {Ts : List Cond} {own : String} {o1 o2 : Option Nat}
theorem lceq (hz : CallFix p m c cc nL s args Ts own) (hdg : decode cc pc = .ok (.ifCond .eq off, 3)) (ht : (pc : Int) + off = (tgt : Int)) (hx : x < 9223372036854775808) (hy : y < 9223372036854775808) (kt : x = y → W p l e R s m args below meth c H locs cells slots Q (F0 m tgt ls rest)) (kf : ¬ x = y → W p l e R s m args below meth c H locs cells slots Q (F0 m (pc + 3) ls rest)) : W p l e R s m args below meth c H locs cells slots Q (F0 m pc ls (.int (lg_cmp (lN x) (lN y)) :: rest)) :=
  lv_if_eq hz.1 hz.2.1 hdg ht (fun h => kt ((pk_lEQ hx hy).mp (lg_eq0.mp h))) (fun h => kf (fun q => h (lg_eq0.mpr ((pk_lEQ hx hy).mpr q))))
theorem lcne (hz : CallFix p m c cc nL s args Ts own) (hdg : decode cc pc = .ok (.ifCond .ne off, 3)) (ht : (pc : Int) + off = (tgt : Int)) (hx : x < 9223372036854775808) (hy : y < 9223372036854775808) (kt : ¬ x = y → W p l e R s m args below meth c H locs cells slots Q (F0 m tgt ls rest)) (kf : x = y → W p l e R s m args below meth c H locs cells slots Q (F0 m (pc + 3) ls rest)) : W p l e R s m args below meth c H locs cells slots Q (F0 m pc ls (.int (lg_cmp (lN x) (lN y)) :: rest)) :=
  lv_if_ne hz.1 hz.2.1 hdg ht (fun h => kt (fun q => h (lg_eq0.mpr ((pk_lEQ hx hy).mpr q)))) (fun h => kf ((pk_lEQ hx hy).mp (lg_eq0.mp h)))
theorem lcle (hz : CallFix p m c cc nL s args Ts own) (hdg : decode cc pc = .ok (.ifCond .le off, 3)) (ht : (pc : Int) + off = (tgt : Int)) (hx : x < 9223372036854775808) (hy : y < 9223372036854775808) (kt : ¬ y < x → W p l e R s m args below meth c H locs cells slots Q (F0 m tgt ls rest)) (kf : y < x → W p l e R s m args below meth c H locs cells slots Q (F0 m (pc + 3) ls rest)) : W p l e R s m args below meth c H locs cells slots Q (F0 m pc ls (.int (lg_cmp (lN x) (lN y)) :: rest)) :=
  lv_if_le hz.1 hz.2.1 hdg ht (fun h => kt (Nat.not_lt.mpr ((pk_lLE hx hy).mp ((lg_cmp_le _ _).mp h)))) (fun h => kf (Nat.not_le.mp (fun q => h ((lg_cmp_le _ _).mpr ((pk_lLE hx hy).mpr q)))))
theorem ocle (hz : CallFix p m c cc nL s args Ts own) (hdg : decode cc pc = .ok (.ifCond .le off, 3)) (ht : (pc : Int) + off = (tgt : Int)) (hb : (∀ j, o1 = some j → j < 9223372036854775808) ∧ (∀ j, o2 = some j → j < 9223372036854775808)) (kt : oLt o2 o1 = false → W p l e R s m args below meth c H locs cells slots Q (F0 m tgt ls rest)) (kf : oLt o2 o1 = true → W p l e R s m args below meth c H locs cells slots Q (F0 m (pc + 3) ls rest)) : W p l e R s m args below meth c H locs cells slots Q (F0 m pc ls (.int (lg_cmp (oL o1) (oL o2)) :: rest)) := by
  have key : lg_cmp (oL o1) (oL o2) ≤ 0 ↔ oLt o2 o1 = false := by
    rw [lg_cmp_le, ← Bool.not_eq_true, ← oL_lt hb.2 hb.1, fa_le64, fa_lt64]; omega
  exact lv_if_le hz.1 hz.2.1 hdg ht (fun h => kt (key.mp h)) (fun h => kf (by
    cases hq : oLt o2 o1 with
    | true => rfl
    | false => exact absurd (key.mpr hq) h))
end BASE5
/-- all below n -/
def sAll (f : Nat → Bool) : Nat → Bool
  | 0 => true
  | n + 1 => sAll f n && f n
def sAny (f : Nat → Bool) : Nat → Bool
  | 0 => false
  | n + 1 => sAny f n || f n
def sCvF (M : Nat → Nat) (set w p : Nat) : Bool := set.testBit p && sHears M p w 1
def sCvW (M : Nat → Nat) (set kk w : Nat) : Bool := decide (M (3 + w) = 4) || decide (kk ≤ fb_ct (sCvF M set w) (M 0))
def sCovers (M : Nat → Nat) (set kk : Nat) : Bool := sAll (sCvW M set kk) (M 0 - 1)
def sCov (C : Nat → Bool) : Nat → Option Nat
  | 0 => none
  | s + 1 => match sCov C s with
    | none => if C s then some s else none
    | some t => if decide (sPop s < sPop t) && C s then some s else some t
def sCover (M : Nat → Nat) (kk : Nat) : Option Nat := sCov (fun s => sCovers M s kk) (2 ^ M 0)
def sTgF (M : Nat → Nat) (v w p : Nat) : Bool := sHears M p v 2 && sHears M p w 2
def sTog (M : Nat → Nat) (v w : Nat) : Bool := sAny (sTgF M v w) (M 0) && !decide (M (3 + v) = 4) && !decide (M (3 + w) = 4)
def sClF (M : Nat → Nat) (v w : Nat) : Bool := decide (v < w) && (decide (sNote M v = sNote M w) && sTog M v w)
def sClash (M : Nat → Nat) : Nat := fb_sm (fun v => fb_ct (sClF M v) (M 0 - 1)) (M 0 - 1)
def sWdF (M : Nat → Nat) (mn w i : Nat) : Bool := decide (M (20 + 2 * i) = mn) && decide (M (20 + 2 * i + 1) = w)
def sWindy (M : Nat → Nat) (mn w : Nat) : Bool := sAny (sWdF M mn w) (M 19)
def sNtF (M : Nat → Nat) (mn w p : Nat) : Bool := (M 2).testBit p && sHears M p w 2 && !(sWindy M mn w && sHears M p w 1)
def sNoticed (M : Nat → Nat) (mn w : Nat) : Nat := fb_ct (sNtF M mn w) (M 0)
def sSlC (M : Nat → Nat) (mn w : Nat) : Nat := if M (3 + w) = 4 then 100 else sNoticed M mn w
def sSlW (c : Nat → Nat) (m : Nat) (s0 : Nat × Option Nat) : Nat → Nat × Option Nat
  | 0 => s0
  | w + 1 => if c w < (sSlW c m s0 w).1 then (c w, some (100 * m + w)) else sSlW c m s0 w
def sSlM (c : Nat → Nat → Nat) (n : Nat) : Nat → Nat × Option Nat
  | 0 => (100, none)
  | m + 1 => sSlW (c m) m (sSlM c n m) n
def sSlip (M : Nat → Nat) : Nat × Option Nat := sSlM (sSlC M) (M 0 - 1) 60
def sCh : Nat → Nat → Nat
  | _, 0 => 1
  | 0, _ + 1 => 0
  | n + 1, k + 1 => sCh n k + sCh n (k + 1)
def sDfN (M : Nat → Nat) (w st : Nat) : Nat := fb_ct (fun p => !sHears M p w (sStr st)) (M 0)
def sSuF (M : Nat → Nat) (kk st w : Nat) : Option Nat := if M (3 + w) = 4 then none else some (sCh (sDfN M w st) kk)
def sSu (f : Nat → Option Nat) : Nat → Option Nat × Option Nat
  | 0 => (none, none)
  | w + 1 => if oLt (sSu f w).2 (f w) then (some w, f w) else sSu f w
def sWcF (M : Nat → Nat) (p nt s w : Nat) : Nat := if sNote M w = nt ∧ sHears M p w s = true then 2 ^ w else 0
def sWhence (M : Nat → Nat) (p nt s : Nat) : Nat := sOr 0 (sWcF M p nt s) (M 0 - 1)
def sPrF (M : Nat → Nat) (w : Nat) : Nat := fb_ct (fun p => sHears M p w 1) (M 0)
def sPairs (M : Nat → Nat) : Nat := fb_sm (sPrF M) (M 0 - 1)
def sDb (f : Nat → Nat) (m0 : Nat) : Nat → Nat × Option Nat
  | 0 => (m0, none)
  | w + 1 => if (sDb f m0 w).1 < f w then (f w, some w) else sDb f m0 w
def sDoubled (M : Nat → Nat) : Option Nat := (sDb (fun w => sPairs (nset M (3 + w) 1)) (sPairs M) (M 0 - 1)).2
def sDu (p q : Nat) : Nat := if 100 * p + 100 * q - p * q = 0 then 1 else 100 * p + 100 * q - p * q
theorem sCh_step : ∀ n, n < 10 → ∀ j, j < n → sCh n j * (n - j) / (j + 1) = sCh n (j + 1) := by decide
theorem sCh_pos : ∀ n, n < 10 → ∀ j, j ≤ n → 0 < sCh n j ∧ sCh n j < 1000 := by decide
theorem sCh_big : ∀ n, n < 10 → ∀ k, k < 10 → n < k → sCh n k = 0 := by decide
theorem sCh_lt : ∀ n, n < 10 → ∀ k, k < 10 → sCh n k < 1000 := by decide
theorem fb_ct_none {p : Nat → Bool} {n : Nat} (h : ∀ k, k < n → p k = false) : fb_ct p n = 0 := fb_ct_zero.mpr h
