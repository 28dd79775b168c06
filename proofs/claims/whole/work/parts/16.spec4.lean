/-! SPEC 4: text, images, counts, digest -/
theorem nI_m1 (x : Int32) : x + Int32.ofInt (-1) = x - nI 1 := by
  rw [Int32.sub_eq_add_neg]
  congr 1
def sByte (v : Int64) (k : Nat) : Nat := v.toBitVec.toNat / 2 ^ (8 * k) % 256
theorem sByte_lt (v : Int64) (k : Nat) : sByte v k < 256 := Nat.mod_lt _ (by decide)
theorem sByte_sh (v : Int64) (u : UInt64) (k : Nat) (hu : (u.toBitVec % 64).toNat = 8 * k) : (v.toUInt64 >>> u).toInt64 &&& lN 255 = lN (sByte v k) := by
  apply Int64.toBitVec_inj.mp
  apply BitVec.eq_of_toNat_eq
  have e255 : (lN 255).toBitVec.toNat = 2 ^ 8 - 1 := by decide
  have h1 : ((v.toUInt64 >>> u).toInt64 &&& lN 255).toBitVec.toNat = (v.toBitVec.toNat >>> (8 * k)) &&& (2 ^ 8 - 1) := by
    rw [Int64.toBitVec_and, BitVec.toNat_and, e255]
    congr 1
    show (v.toUInt64 >>> u).toBitVec.toNat = _
    rw [UInt64.toBitVec_shiftRight, BitVec.ushiftRight_eq', BitVec.toNat_ushiftRight, hu]
    rfl
  rw [h1, Nat.and_two_pow_sub_one_eq_mod, Nat.shiftRight_eq_div_pow]
  show _ = (BitVec.ofNat 64 (sByte v k)).toNat
  rw [BitVec.toNat_ofNat, Nat.mod_eq_of_lt (Nat.lt_trans (sByte_lt v k) (by decide))]
  rfl
theorem sByte_is (v : Int64) {k : Nat} (hk : k < 8) : (v.toUInt64 >>> ((nI (8 * k)).toInt64.toUInt64 &&& Int64.toUInt64 63)).toInt64 &&& lN 255 = lN (sByte v k) := by
  apply sByte_sh
  have h : ∀ k, k < 8 → (((nI (8 * k)).toInt64.toUInt64 &&& Int64.toUInt64 63).toBitVec % 64).toNat = 8 * k := by decide
  exact h k hk
def sTy (f : Nat → Nat) (a : Nat) (v : Int64) (n : Nat) : Nat → Nat → Nat
  | 0 => f
  | i + 1 => nset (sTy f a v n i) (a + i) (sByte v (n - 1 - i))
/-- f, but g's first n places from a on -/
def cput (f g : Nat → Nat) (a n : Nat) : Nat → Nat := fun j => if a ≤ j ∧ j < a + n then g (j - a) else f j
theorem cput_0 (f g : Nat → Nat) (a : Nat) : cput f g a 0 = f := funext fun j => if_neg (by omega)
theorem cput_s (f g : Nat → Nat) (a n : Nat) : nset (cput f g a n) (a + n) (g n) = cput f g a (n + 1) := by
  funext j
  unfold nset cput
  by_cases h : j = a + n
  · subst h; rw [if_pos rfl, if_pos (by omega)]; congr 1; omega
  · rw [if_neg h]
    by_cases h2 : a ≤ j ∧ j < a + n
    · rw [if_pos h2, if_pos (by omega)]
    · rw [if_neg h2, if_neg (by omega)]
/-- f, but below n g's places from c on -/
def cget (f g : Nat → Nat) (c n : Nat) : Nat → Nat := fun j => if j < n then g (c + j) else f j
theorem cget_0 (f g : Nat → Nat) (c : Nat) : cget f g c 0 = f := funext fun j => if_neg (Nat.not_lt_zero j)
theorem cget_s (f g : Nat → Nat) (c n : Nat) : nset (cget f g c n) n (g (c + n)) = cget f g c (n + 1) := by
  funext j
  unfold nset cget
  by_cases h : j = n
  · subst h; rw [if_pos rfl, if_pos (Nat.lt_succ_self j)]
  · rw [if_neg h]
    by_cases h2 : j < n
    · rw [if_pos h2, if_pos (by omega)]
    · rw [if_neg h2, if_neg (by omega)]
def sCount (M : Nat → Nat) (len wh : Nat) : Nat := if wh = 0 then M 0 else if wh = 1 then sPop (M 2) else if wh = 2 then M 19 else if wh = 3 then M 32 else if wh = 4 then len else M 1
theorem sCount_lt {M : Nat → Nat} (hf : Wf M) {len : Nat} (hl : len ≤ 200) (wh : Nat) : sCount M len wh < 1000 := by
  have h1 := hf.n9
  have h2 := hf.gd
  have h3 := sPop_le (M 2)
  have h4 := hf.wc
  have h5 := hf.pc
  have h6 := hf.fr
  unfold sCount
  repeat (first | omega | (split; omega))
def sSums (f : Nat → Nat) (h0 : Nat) : Nat → Nat
  | 0 => h0
  | n + 1 => 31 * sSums f h0 n + f n
def sWsum (M : Nat → Nat) (h0 : Nat) : Nat → Nat
  | 0 => h0
  | w + 1 => 31 * (31 * sWsum M h0 w + M (3 + w)) + M (11 + w)
def sDig (M : Nat → Nat) (len fa fb : Nat) : Nat := 31 * (31 * sSums (fun k => M (33 + k)) (sSums (fun k => M (20 + k)) (sWsum M (31 * sSums (sCount M len) 787 6 + M 2) (M 0 - 1)) (2 * M 19)) (3 * M 32) + fa) + fb
theorem Wf.wrow {M : Nat → Nat} (h : Wf M) {j : Nat} (hj : j < 2 * M 19) : M (20 + j) < 60 := by
  have h9 := h.n9
  rcases Nat.mod_two_eq_zero_or_one j with q | q
  · have := (h.wi (i := j / 2) (by omega)).1
    rwa [show 20 + 2 * (j / 2) = 20 + j by omega] at this
  · have := (h.wi (i := j / 2) (by omega)).2
    rw [show 20 + 2 * (j / 2) + 1 = 20 + j by omega] at this
    omega
theorem Wf.prow {M : Nat → Nat} (h : Wf M) {j : Nat} (hj : j < 3 * M 32) : M (33 + j) < 60 := by
  have h9 := h.n9
  have hq := h.pi (i := j / 3) (by omega)
  have h3 : j % 3 = 0 ∨ j % 3 = 1 ∨ j % 3 = 2 := by omega
  rcases h3 with q | q | q
  · have := hq.1; rwa [show 33 + 3 * (j / 3) = 33 + j by omega] at this
  · have := hq.2.1; rw [show 33 + 3 * (j / 3) + 1 = 33 + j by omega] at this; omega
  · have := hq.2.2; rw [show 33 + 3 * (j / 3) + 2 = 33 + j by omega] at this; omega
