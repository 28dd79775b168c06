/-! BASE 14: worlds by their groups -/
theorem va_P.left {D : va_G} {cl : List vw_C} {w1 w2 : va_W} {H : Heap} (h : va_P D cl (w1 ++ w2) H) : va_P D cl w1 H := fun k q hk => h k q (by rw [List.getElem?_append_left (List.getElem?_eq_some_iff.mp hk).1]; exact hk)
theorem va_P.right {D : va_G} {cl : List vw_C} {w1 w2 : va_W} {H : Heap} (h : va_P D cl (w1 ++ w2) H) : va_P D cl w2 H := fun k q hk => h (w1.length + k) q (by rw [List.getElem?_append_right (by omega), Nat.add_sub_cancel_left]; exact hk)
theorem map_at {ws g : va_W} {js : List Nat} (hG : js.map (fun i => ws[i]?) = g.map some) {k : Nat} {q : Nat × va_E} (hk : g[k]? = some q) : ∃ j, js[k]? = some j ∧ ws[j]? = some q := by
  have h1 : (js.map (fun i => ws[i]?))[k]? = some (some q) := by rw [hG, List.getElem?_map, hk]; rfl
  rw [List.getElem?_map] at h1
  cases hi : js[k]? with
  | none => rw [hi] at h1; cases h1
  | some i => rw [hi] at h1; exact ⟨i, rfl, Option.some.inj h1⟩
theorem keepP {D : va_G} {cl : List vw_C} {A : Nat → Prop} {ws wc g : va_W} {H H1 : Heap} (hP : va_P D cl ws H) (hD : va_D A ws) (is js : List Nat) (hC : is.map (fun i => ws[i]?) = wc.map some) (hG : js.map (fun i => ws[i]?) = g.map some) (hdis : ∀ j ∈ js, j ∉ is) (hfr : ∀ q : Nat, q < H.size → ¬ wA wc q → H1[q]? = H[q]?) : va_P D cl g H1 := by
  intro k q hk
  obtain ⟨j, h1, h2⟩ := map_at hG hk
  refine (hP j q h2).kept (hfr _ ((hP j q h2).lt) ?_)
  rintro ⟨i2, e, hi2⟩
  obtain ⟨i, h3, h4⟩ := map_at hC hi2
  have hij : i = j := hD.1 i j _ _ h4 h2 rfl
  exact hdis j (List.mem_of_getElem? h1) (by rw [← hij]; exact List.mem_of_getElem? h3)
/-- the world's addresses: a's at ix -/
theorem wA_ix {a : Nat → Nat} {ws : va_W} {ix : List Nat} (h : ws.map (fun q => q.1) = ix.map a) {q : Nat} (hq : wA ws q) : ∃ i, i ∈ ix ∧ q = a i := by
  obtain ⟨k, e, hk⟩ := hq
  have h1 : (ws.map (fun q => q.1))[k]? = some q := by rw [List.getElem?_map, hk]; rfl
  rw [h, List.getElem?_map] at h1
  cases hi : ix[k]? with
  | none => rw [hi] at h1; cases h1
  | some i => rw [hi] at h1; exact ⟨i, List.mem_of_getElem? hi, (Option.some.inj h1).symm⟩
/-- N addresses that are apart -/
def aOK (A : Nat → Prop) (a : Nat → Nat) (N : Nat) : Prop := (∀ i j, i < N → j < N → a i = a j → i = j) ∧ ∀ i, i < N → A (a i)
theorem D_ix {A : Nat → Prop} {a : Nat → Nat} {N : Nat} (ha : aOK A a N) {ws : va_W} (ix : List Nat) (h : ws.map (fun q => q.1) = ix.map a) (hnd : va_nd ix = true) (hlt : ∀ i ∈ ix, i < N) : va_D A ws := by
  have key : ∀ (k : Nat) (q : Nat × va_E), ws[k]? = some q → ∃ i, ix[k]? = some i ∧ q.1 = a i := by
    intro k q hk
    have h1 : (ws.map (fun q => q.1))[k]? = some q.1 := by rw [List.getElem?_map, hk]; rfl
    rw [h, List.getElem?_map] at h1
    cases hi : ix[k]? with
    | none => rw [hi] at h1; cases h1
    | some i => rw [hi] at h1; exact ⟨i, rfl, (Option.some.inj h1).symm⟩
  refine ⟨fun i j p q hp hq hpq => ?_, fun k q hk => ?_⟩
  · obtain ⟨x, h1, h2⟩ := key i p hp
    obtain ⟨y, h3, h4⟩ := key j q hq
    have hxy : x = y := ha.1 x y (hlt x (List.mem_of_getElem? h1)) (hlt y (List.mem_of_getElem? h3)) (by rw [← h2, ← h4]; exact hpq)
    subst hxy
    exact va_nd_inj ix hnd i j x h1 h3
  · obtain ⟨x, h1, h2⟩ := key k q hk
    rw [h2]
    exact ha.2 x (hlt x (List.mem_of_getElem? h1))
theorem keepG {D : va_G} {cl : List vw_C} {A : Nat → Prop} {a : Nat → Nat} {N : Nat} (ha : aOK A a N) {wc g : va_W} {H H1 : Heap} (ix jx : List Nat) (hw : wc.map (fun q => q.1) = ix.map a) (hg : g.map (fun q => q.1) = jx.map a) (hx : ∀ i ∈ ix, i < N) (hj : ∀ j ∈ jx, j < N) (hdis : ∀ j ∈ jx, j ∉ ix) (hP : va_P D cl g H) (hfr : ∀ q : Nat, q < H.size → ¬ wA wc q → H1[q]? = H[q]?) : va_P D cl g H1 := by
  intro k q hk
  refine (hP k q hk).kept (hfr _ ((hP k q hk).lt) (fun hq => ?_))
  obtain ⟨i, h1, h2⟩ := wA_ix hw hq
  obtain ⟨j, h3, h4⟩ := wA_ix hg (q := q.1) ⟨k, q.2, hk⟩
  have hij : i = j := ha.1 i j (hx i h1) (hj j h3) (by rw [← h2, ← h4])
  subst hij
  exact hdis i h3 h1
theorem keepX {D : va_G} {cl : List vw_C} {a b : Nat → Nat} {N M : Nat} (hab : ∀ i j, i < N → j < M → a i ≠ b j) {wc g : va_W} {H H1 : Heap} (ix jx : List Nat) (hw : wc.map (fun q => q.1) = ix.map a) (hg : g.map (fun q => q.1) = jx.map b) (hx : ∀ i ∈ ix, i < N) (hj : ∀ j ∈ jx, j < M) (hP : va_P D cl g H) (hfr : ∀ q : Nat, q < H.size → ¬ wA wc q → H1[q]? = H[q]?) : va_P D cl g H1 := by
  intro k q hk
  refine (hP k q hk).kept (hfr _ ((hP k q hk).lt) (fun hq => ?_))
  obtain ⟨i, h1, h2⟩ := wA_ix hw hq
  obtain ⟨j, h3, h4⟩ := wA_ix hg (q := q.1) ⟨k, q.2, hk⟩
  exact hab i j (hx i h1) (hj j h3) (h2.symm.trans h4)
