/-! SPEC 2: what calls do to M -/
def sBegin (M : Nat → Nat) (n : Nat) : Nat → Nat := nset (zfill M 57) 0 n
def sWire (M : Nat → Nat) (w kd t : Nat) : Nat → Nat := nset (nset M (3 + w) kd) (11 + w) t
def sAddWind (M : Nat → Nat) (m w : Nat) : Nat → Nat := nset (nset (nset M (20 + 2 * M 19) m) (20 + 2 * M 19 + 1) w) 19 (M 19 + 1)
def sAddPass (M : Nat → Nat) (m w s : Nat) : Nat → Nat := nset (nset (nset (nset M (33 + 3 * M 32) m) (33 + 3 * M 32 + 1) w) (33 + 3 * M 32 + 2) s) 32 (M 32 + 1)
def sRef (F : Nat → Nat) (i : Nat) : Nat → Nat := nset F i (F i + 1)
def sAlF (M : Nat → Nat) (m p : Nat) : Bool := (M 2).testBit p && decide (sHeard M p m ≠ 0)
def sAlarm (M : Nat → Nat) (m : Nat) : Nat := fb_ct (sAlF M m) (M 0)
/-- WHICH: the pairs in a row, j = 4 WIRE and STEP -/
def sWhP (M : Nat → Nat) (a ha b hb j : Nat) : Bool := decide (sNotesBy M a (j / 4) (j % 4) = ha) && decide (sNotesBy M b (j / 4) (j % 4) = hb)
def sWhF (P : Nat → Bool) (i : Int32) : Nat → Int32
  | 0 => -5
  | j + 1 => if P j = true ∧ nI (fb_ct P j) = i then nI (10 * (j / 4) + j % 4) else sWhF P i j
def sWhich (M : Nat → Nat) (a ha b hb : Nat) (i : Int32) : Int32 := if i = -1 then nI (fb_ct (sWhP M a ha b hb) (4 * (M 0 - 1))) else sWhF (sWhP M a ha b hb) i (4 * (M 0 - 1))
