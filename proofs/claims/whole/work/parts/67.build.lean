/-! THE BUILDING: the memory as a list of the cells made so far -/
def ov (M : Mm) (a : Nat) (l : List va_E) : Mm := fun q => if a ≤ q ∧ q < a + l.length then l[q - a]? else M q
section OV
variable {M : Mm} {a : Nat} {l : List va_E}
theorem ov_nil : ov M a [] = M := by
  funext q
  unfold ov
  rw [if_neg (fun h => by have := h.2; simp at this; omega)]
theorem ov_get {k : Nat} (h : k < l.length) : ov M a l (a + k) = l[k]? := by
  unfold ov
  rw [if_pos ⟨by omega, by omega⟩, Nat.add_sub_cancel_left]
theorem ov_at {k : Nat} {e : va_E} (h : l[k]? = some e) : ov M a l (a + k) = some e := (ov_get (List.getElem?_eq_some_iff.mp h).1).trans h
theorem ov_set {k : Nat} {e : va_E} (h : k < l.length) : mUp (ov M a l) (a + k) e = ov M a (l.set k e) := by
  funext q
  unfold mUp ov
  rw [List.length_set]
  by_cases e1 : q = a + k
  · subst e1
    rw [if_pos rfl, if_pos ⟨by omega, by omega⟩, Nat.add_sub_cancel_left, List.getElem?_set_self h]
  · rw [if_neg e1]
    by_cases e2 : a ≤ q ∧ q < a + l.length
    · rw [if_pos e2, if_pos e2, List.getElem?_set_ne (by omega)]
    · rw [if_neg e2, if_neg e2]
theorem ov_nest {r : List va_E} {n : Nat} (hn : l.length = n) : ov (ov M a l) (a + n) r = ov M a (l ++ r) := by
  subst hn
  funext q
  unfold ov
  rw [List.length_append]
  by_cases e1 : a + l.length ≤ q ∧ q < a + l.length + r.length
  · rw [if_pos e1, if_pos ⟨by omega, by omega⟩, List.getElem?_append_right (by omega)]
    congr 1
    omega
  · rw [if_neg e1]
    by_cases e2 : a ≤ q ∧ q < a + l.length
    · rw [if_pos e2, if_pos ⟨by omega, by omega⟩, List.getElem?_append_left (by omega)]
    · rw [if_neg e2, if_neg (fun h => by omega)]
theorem ov_app {n : Nat} {e : va_E} (hn : l.length = n) : mUp (ov M a l) (a + n) e = ov M a (l ++ [e]) := by
  rw [← ov_nest hn]
  funext q
  unfold mUp
  by_cases e1 : q = a + n
  · subst e1
    rw [if_pos rfl]
    unfold ov
    rw [if_pos ⟨Nat.le_refl _, by simp⟩, Nat.sub_self]
    rfl
  · rw [if_neg e1]
    conv => rhs; unfold ov
    rw [if_neg (fun h => by have := h.2; simp at this; omega)]
    rfl
variable {G : Gw} {y pc : Nat} {ls : Lo} {r : List Value} {sl fr lo : Nat} {Q : Po} {w x z : Nat} {k : Int} {n : Nat}
theorem bv_new {i N : Nat} (hc : (mm_pr y).bind (fun mi => mi.co pc) = some (.new i, w, x, 0, k)) (hn : l.length = n) (hN : (obDf x).length = N) (h1 : a + (n + 1) ≤ G.b0 + mm_mxC) (h2 : sl + N ≤ mm_mxS) (K : Ev G y (pc + 3) ls (.ref (a + n) :: r) (ov M a (l ++ [.inr (x, obDf x)])) (a + (n + 1)) (sl + N) fr lo Q) : Ev G y pc ls r (ov M a l) (a + n) sl fr lo Q := by
  subst hN
  refine ev_new hc (by omega) h2 ?_
  rw [ov_app hn]
  exact K
theorem bv_newa {t : ArrayType} {v : Int32} (hc : (mm_pr y).bind (fun mi => mi.co pc) = some (.newarray t, w, x, z, k)) (hn : l.length = n) (N : Nat) (hv : v = nI N) (hN : N * arBy x ≤ 536870912) (h1 : a + (n + 1) ≤ G.b0 + mm_mxC) (h2 : sl + N ≤ mm_mxS) (h31 : N < 2 ^ 31) (K : Ev G y (pc + 2) ls (.ref (a + n) :: r) (ov M a (l ++ [.inl (G.dA x, arDf x N)])) (a + (n + 1)) (sl + N) fr lo Q) : Ev G y pc ls (.int v :: r) (ov M a l) (a + n) sl fr lo Q := by
  refine ev_newa hc N hv hN (by omega) h2 ?_ h31
  rw [ov_app hn]
  exact K
theorem bv_anew {i : Nat} {v : Int32} (hc : (mm_pr y).bind (fun mi => mi.co pc) = some (.anewarray i, w, x, z, k)) (hn : l.length = n) (N : Nat) (hv : v = nI N) (hN : N * 4 ≤ 536870912) (h1 : a + (n + 1) ≤ G.b0 + mm_mxC) (h2 : sl + N ≤ mm_mxS) (h31 : N < 2 ^ 31) (K : Ev G y (pc + 3) ls (.ref (a + n) :: r) (ov M a (l ++ [.inl (G.dA x, arDf x N)])) (a + (n + 1)) (sl + N) fr lo Q) : Ev G y pc ls (.int v :: r) (ov M a l) (a + n) sl fr lo Q := by
  refine ev_anew hc N hv hN (by omega) h2 ?_ h31
  rw [ov_app hn]
  exact K
variable {sz : Nat}
theorem bv_put {i : Nat} (j : Nat) {fs : List Value} {v : Value} (hc : (mm_pr y).bind (fun mi => mi.co pc) = some (.putfield i, w, x, z, k)) (hj : l[j]? = some (.inr (x, fs))) (hz : z < fs.length) (hn : narrow (mm_fty x z) v = v) (hf : fits (mm_fty x z) v = true) (K : Ev G y (pc + 3) ls r (ov M a (l.set j (.inr (x, fs.set z v)))) sz sl fr lo Q) : Ev G y pc ls (v :: .ref (a + j) :: r) (ov M a l) sz sl fr lo Q := by
  refine ev_put hc (ov_at hj) hz hn hf ?_
  rw [ov_set (List.getElem?_eq_some_iff.mp hj).1]
  exact K
theorem bv_get {i : Nat} (j : Nat) {fs : List Value} {v : Value} (hc : (mm_pr y).bind (fun mi => mi.co pc) = some (.getfield i, w, x, z, k)) (hj : l[j]? = some (.inr (x, fs))) (hv : fs[z]? = some v) (K : Ev G y (pc + 3) ls (v :: r) (ov M a l) sz sl fr lo Q) : Ev G y pc ls (.ref (a + j) :: r) (ov M a l) sz sl fr lo Q := ev_get hc (ov_at hj) hv K
/-- a thing that was just made is built -/
theorem bv_call {i c m B : Nat} {mi : Mi} {fin : List va_E} {obj : va_E} (hc : (mm_pr y).bind (fun mi => mi.co pc) = some (.invokespecial i, w, c, 0, k)) (hm : mm_pr c = some mi) (hna : mi.na = 1) (hmL : 1 ≤ mi.mL) (hn : l.length = n) (h1 : 1 ≤ fr) (h2 : mi.mL + 25 ≤ lo) (h3 : (r.map (fun v => v.category)).sum ≤ 14)
    (hq : ∀ Q' : Po, (∀ sl', sl' ≤ sl + B → Q' (.inl none) (ov (ov M a l) (a + n) fin) (a + n + m) sl') → Ev G c 0 (loEnt mi.mL [.ref (a + n)]) [] (ov (ov M a l) (a + n) [obj]) (a + n + 1) sl (fr - 1) (lo - (mi.mL + 25)) Q')
    (K : ∀ sl', sl' ≤ sl + B → Ev G y (pc + 3) ls r (ov M a (l ++ fin)) (a + (n + m)) sl' fr lo Q) : Ev G y pc ls (.ref (a + n) :: r) (ov M a (l ++ [obj])) (a + (n + 1)) sl fr lo Q := by
  rw [← ov_nest hn]
  refine ev_callI (mi := mi) hc hm (a := a + n) (As := []) (rest := r) rfl hna (by simpa [loArgs, Value.category] using hmL) h1 h2 h3 (fun o M' sz' sl' => backP (Ev G) y pc ls r fr lo Q o M' sz' sl') ?_ (fun _ _ _ _ h => h)
  refine hq _ (fun sl' hs => ?_)
  have := K sl' hs
  rw [← ov_nest hn, ← Nat.add_assoc] at this
  exact this
end OV
def partC : va_E := .inr (2, [.long 0, .long 0, .long 0, .long 0, .int 0, .int (-1), .int (-1), .int 0, .int 0, .long 0, .long 0, .int (-1)])
def aryC (G : Gw) (x N : Nat) : va_E := .inl (G.dA x, arDf x N)
def srchC (G : Gw) (a : Nat) : List va_E := [.inr (1, [.ref (a + 1), .ref (a + 2), .ref (a + 3), .ref (a + 4), .ref (a + 5), .ref (a + 6), .ref (a + 7), .ref (a + 8), .int 0]), aryC G 1 40, aryC G 1 40, aryC G 1 40, aryC G 1 40, aryC G 0 200, aryC G 0 30, aryC G 0 5, aryC G 0 5]
theorem k0 {G : Gw} {M : Mm} {a sl fr lo : Nat} {Q : Po} (h1 : a + 30 ≤ G.b0 + mm_mxC) (h2 : sl + 0 ≤ mm_mxS) (h3 : 2 ≤ fr) (h4 : 100 ≤ lo) (h : ∀ sl', sl' ≤ sl + 0 → Q (.inl none) (ov M a [.inr (3, obDf 3)]) (a + 1) sl') : Ev G 0 0 (loEnt 1 [.ref a]) [] (ov M a [.inr (3, obDf 3)]) (a + 1) sl fr lo Q := by
  refine ev_run 1 (pc' := 1) (ls' := [some (.ref a)]) (st' := [.ref a]) rfl ?_
  refine ev_obj rfl (by omega) (show 0 + 12 ≤ lo from by omega) ?_
  refine ev_vret rfl ?_
  exact h _ (by omega)
theorem k5 {G : Gw} {M : Mm} {a sl fr lo : Nat} {Q : Po} (h1 : a + 30 ≤ G.b0 + mm_mxC) (h2 : sl + 0 ≤ mm_mxS) (h3 : 2 ≤ fr) (h4 : 100 ≤ lo) (h : ∀ sl', sl' ≤ sl + 0 → Q (.inl none) (ov M a [.inr (4, obDf 4)]) (a + 1) sl') : Ev G 5 0 (loEnt 1 [.ref a]) [] (ov M a [.inr (4, obDf 4)]) (a + 1) sl fr lo Q := by
  refine ev_run 1 (pc' := 1) (ls' := [some (.ref a)]) (st' := [.ref a]) rfl ?_
  refine ev_obj rfl (by omega) (show 0 + 12 ≤ lo from by omega) ?_
  refine ev_vret rfl ?_
  exact h _ (by omega)
theorem k2 {G : Gw} {M : Mm} {a sl fr lo : Nat} {Q : Po} (h1 : a + 30 ≤ G.b0 + mm_mxC) (h2 : sl + 0 ≤ mm_mxS) (h3 : 2 ≤ fr) (h4 : 100 ≤ lo) (h : ∀ sl', sl' ≤ sl + 0 → Q (.inl none) (ov M a [partC]) (a + 1) sl') : Ev G 2 0 (loEnt 1 [.ref a]) [] (ov M a [.inr (2, obDf 2)]) (a + 1) sl fr lo Q := by
  refine ev_run 1 (pc' := 1) (ls' := [some (.ref a)]) (st' := [.ref a]) rfl ?_
  refine ev_obj rfl (by omega) (show 0 + 12 ≤ lo from by omega) ?_
  refine ev_run 2 (pc' := 6) (ls' := [some (.ref a)]) (st' := [.int (Int32.ofInt (-1)), .ref a]) rfl ?_
  refine bv_put (a := a) 0 rfl rfl (Nat.le_of_ble_eq_true rfl) rfl rfl ?_
  show Ev G 2 9 [some (.ref a)] [] (ov M a [.inr (2, [.long 0, .long 0, .long 0, .long 0, .int 0, .int (Int32.ofInt (-1)), .int 0, .int 0, .int 0, .long 0, .long 0, .int 0])]) _ _ _ _ _
  refine ev_run 2 (pc' := 11) (ls' := [some (.ref a)]) (st' := [.int (Int32.ofInt (-1)), .ref a]) rfl ?_
  refine bv_put (a := a) 0 rfl rfl (Nat.le_of_ble_eq_true rfl) rfl rfl ?_
  show Ev G 2 14 [some (.ref a)] [] (ov M a [.inr (2, [.long 0, .long 0, .long 0, .long 0, .int 0, .int (Int32.ofInt (-1)), .int (Int32.ofInt (-1)), .int 0, .int 0, .long 0, .long 0, .int 0])]) _ _ _ _ _
  refine ev_run 2 (pc' := 16) (ls' := [some (.ref a)]) (st' := [.int (Int32.ofInt (-1)), .ref a]) rfl ?_
  refine bv_put (a := a) 0 rfl rfl (Nat.le_of_ble_eq_true rfl) rfl rfl ?_
  show Ev G 2 19 [some (.ref a)] [] (ov M a [.inr (2, [.long 0, .long 0, .long 0, .long 0, .int 0, .int (Int32.ofInt (-1)), .int (Int32.ofInt (-1)), .int 0, .int 0, .long 0, .long 0, .int (Int32.ofInt (-1))])]) _ _ _ _ _
  refine ev_vret rfl ?_
  exact h _ (by omega)
theorem k1 {G : Gw} {M : Mm} {a sl fr lo : Nat} {Q : Po} (h1 : a + 30 ≤ G.b0 + mm_mxC) (h2 : sl + 400 ≤ mm_mxS) (h3 : 2 ≤ fr) (h4 : 100 ≤ lo) (h : ∀ sl', sl' ≤ sl + 400 → Q (.inl none) (ov M a (srchC G a)) (a + 9) sl') : Ev G 1 0 (loEnt 1 [.ref a]) [] (ov M a [.inr (1, obDf 1)]) (a + 1) sl fr lo Q := by
  refine ev_run 1 (pc' := 1) (ls' := [some (.ref a)]) (st' := [.ref a]) rfl ?_
  refine ev_obj rfl (by omega) (show 0 + 12 ≤ lo from by omega) ?_
  refine ev_run 2 (pc' := 7) (ls' := [some (.ref a)]) (st' := [.int (Int32.ofInt 40), .ref a]) rfl ?_
  refine bv_newa (a := a) (n := 1) rfl rfl 40 rfl (by decide) (by omega) (by omega) (by decide) ?_
  show Ev G 1 9 [some (.ref a)] [.ref (a + 1), .ref a] (ov M a [.inr (1, [.null, .null, .null, .null, .null, .null, .null, .null, .int 0]), aryC G 1 40]) _ _ _ _ _
  refine bv_put (a := a) 0 rfl rfl (Nat.le_of_ble_eq_true rfl) rfl rfl ?_
  show Ev G 1 12 [some (.ref a)] [] (ov M a [.inr (1, [.ref (a + 1), .null, .null, .null, .null, .null, .null, .null, .int 0]), aryC G 1 40]) _ _ _ _ _
  refine ev_run 2 (pc' := 15) (ls' := [some (.ref a)]) (st' := [.int (Int32.ofInt 40), .ref a]) rfl ?_
  refine bv_newa (a := a) (n := 2) rfl rfl 40 rfl (by decide) (by omega) (by omega) (by decide) ?_
  show Ev G 1 17 [some (.ref a)] [.ref (a + 2), .ref a] (ov M a [.inr (1, [.ref (a + 1), .null, .null, .null, .null, .null, .null, .null, .int 0]), aryC G 1 40, aryC G 1 40]) _ _ _ _ _
  refine bv_put (a := a) 0 rfl rfl (Nat.le_of_ble_eq_true rfl) rfl rfl ?_
  show Ev G 1 20 [some (.ref a)] [] (ov M a [.inr (1, [.ref (a + 1), .ref (a + 2), .null, .null, .null, .null, .null, .null, .int 0]), aryC G 1 40, aryC G 1 40]) _ _ _ _ _
  refine ev_run 2 (pc' := 23) (ls' := [some (.ref a)]) (st' := [.int (Int32.ofInt 40), .ref a]) rfl ?_
  refine bv_newa (a := a) (n := 3) rfl rfl 40 rfl (by decide) (by omega) (by omega) (by decide) ?_
  show Ev G 1 25 [some (.ref a)] [.ref (a + 3), .ref a] (ov M a [.inr (1, [.ref (a + 1), .ref (a + 2), .null, .null, .null, .null, .null, .null, .int 0]), aryC G 1 40, aryC G 1 40, aryC G 1 40]) _ _ _ _ _
  refine bv_put (a := a) 0 rfl rfl (Nat.le_of_ble_eq_true rfl) rfl rfl ?_
  show Ev G 1 28 [some (.ref a)] [] (ov M a [.inr (1, [.ref (a + 1), .ref (a + 2), .ref (a + 3), .null, .null, .null, .null, .null, .int 0]), aryC G 1 40, aryC G 1 40, aryC G 1 40]) _ _ _ _ _
  refine ev_run 2 (pc' := 31) (ls' := [some (.ref a)]) (st' := [.int (Int32.ofInt 40), .ref a]) rfl ?_
  refine bv_newa (a := a) (n := 4) rfl rfl 40 rfl (by decide) (by omega) (by omega) (by decide) ?_
  show Ev G 1 33 [some (.ref a)] [.ref (a + 4), .ref a] (ov M a [.inr (1, [.ref (a + 1), .ref (a + 2), .ref (a + 3), .null, .null, .null, .null, .null, .int 0]), aryC G 1 40, aryC G 1 40, aryC G 1 40, aryC G 1 40]) _ _ _ _ _
  refine bv_put (a := a) 0 rfl rfl (Nat.le_of_ble_eq_true rfl) rfl rfl ?_
  show Ev G 1 36 [some (.ref a)] [] (ov M a [.inr (1, [.ref (a + 1), .ref (a + 2), .ref (a + 3), .ref (a + 4), .null, .null, .null, .null, .int 0]), aryC G 1 40, aryC G 1 40, aryC G 1 40, aryC G 1 40]) _ _ _ _ _
  refine ev_run 2 (pc' := 40) (ls' := [some (.ref a)]) (st' := [.int (Int32.ofInt 200), .ref a]) rfl ?_
  refine bv_newa (a := a) (n := 5) rfl rfl 200 rfl (by decide) (by omega) (by omega) (by decide) ?_
  show Ev G 1 42 [some (.ref a)] [.ref (a + 5), .ref a] (ov M a [.inr (1, [.ref (a + 1), .ref (a + 2), .ref (a + 3), .ref (a + 4), .null, .null, .null, .null, .int 0]), aryC G 1 40, aryC G 1 40, aryC G 1 40, aryC G 1 40, aryC G 0 200]) _ _ _ _ _
  refine bv_put (a := a) 0 rfl rfl (Nat.le_of_ble_eq_true rfl) rfl rfl ?_
  show Ev G 1 45 [some (.ref a)] [] (ov M a [.inr (1, [.ref (a + 1), .ref (a + 2), .ref (a + 3), .ref (a + 4), .ref (a + 5), .null, .null, .null, .int 0]), aryC G 1 40, aryC G 1 40, aryC G 1 40, aryC G 1 40, aryC G 0 200]) _ _ _ _ _
  refine ev_run 2 (pc' := 48) (ls' := [some (.ref a)]) (st' := [.int (Int32.ofInt 30), .ref a]) rfl ?_
  refine bv_newa (a := a) (n := 6) rfl rfl 30 rfl (by decide) (by omega) (by omega) (by decide) ?_
  show Ev G 1 50 [some (.ref a)] [.ref (a + 6), .ref a] (ov M a [.inr (1, [.ref (a + 1), .ref (a + 2), .ref (a + 3), .ref (a + 4), .ref (a + 5), .null, .null, .null, .int 0]), aryC G 1 40, aryC G 1 40, aryC G 1 40, aryC G 1 40, aryC G 0 200, aryC G 0 30]) _ _ _ _ _
  refine bv_put (a := a) 0 rfl rfl (Nat.le_of_ble_eq_true rfl) rfl rfl ?_
  show Ev G 1 53 [some (.ref a)] [] (ov M a [.inr (1, [.ref (a + 1), .ref (a + 2), .ref (a + 3), .ref (a + 4), .ref (a + 5), .ref (a + 6), .null, .null, .int 0]), aryC G 1 40, aryC G 1 40, aryC G 1 40, aryC G 1 40, aryC G 0 200, aryC G 0 30]) _ _ _ _ _
  refine ev_run 2 (pc' := 55) (ls' := [some (.ref a)]) (st' := [.int (Int32.ofInt 5), .ref a]) rfl ?_
  refine bv_newa (a := a) (n := 7) rfl rfl 5 rfl (by decide) (by omega) (by omega) (by decide) ?_
  show Ev G 1 57 [some (.ref a)] [.ref (a + 7), .ref a] (ov M a [.inr (1, [.ref (a + 1), .ref (a + 2), .ref (a + 3), .ref (a + 4), .ref (a + 5), .ref (a + 6), .null, .null, .int 0]), aryC G 1 40, aryC G 1 40, aryC G 1 40, aryC G 1 40, aryC G 0 200, aryC G 0 30, aryC G 0 5]) _ _ _ _ _
  refine bv_put (a := a) 0 rfl rfl (Nat.le_of_ble_eq_true rfl) rfl rfl ?_
  show Ev G 1 60 [some (.ref a)] [] (ov M a [.inr (1, [.ref (a + 1), .ref (a + 2), .ref (a + 3), .ref (a + 4), .ref (a + 5), .ref (a + 6), .ref (a + 7), .null, .int 0]), aryC G 1 40, aryC G 1 40, aryC G 1 40, aryC G 1 40, aryC G 0 200, aryC G 0 30, aryC G 0 5]) _ _ _ _ _
  refine ev_run 2 (pc' := 62) (ls' := [some (.ref a)]) (st' := [.int (Int32.ofInt 5), .ref a]) rfl ?_
  refine bv_newa (a := a) (n := 8) rfl rfl 5 rfl (by decide) (by omega) (by omega) (by decide) ?_
  show Ev G 1 64 [some (.ref a)] [.ref (a + 8), .ref a] (ov M a [.inr (1, [.ref (a + 1), .ref (a + 2), .ref (a + 3), .ref (a + 4), .ref (a + 5), .ref (a + 6), .ref (a + 7), .null, .int 0]), aryC G 1 40, aryC G 1 40, aryC G 1 40, aryC G 1 40, aryC G 0 200, aryC G 0 30, aryC G 0 5, aryC G 0 5]) _ _ _ _ _
  refine bv_put (a := a) 0 rfl rfl (Nat.le_of_ble_eq_true rfl) rfl rfl ?_
  show Ev G 1 67 [some (.ref a)] [] (ov M a [.inr (1, [.ref (a + 1), .ref (a + 2), .ref (a + 3), .ref (a + 4), .ref (a + 5), .ref (a + 6), .ref (a + 7), .ref (a + 8), .int 0]), aryC G 1 40, aryC G 1 40, aryC G 1 40, aryC G 1 40, aryC G 0 200, aryC G 0 30, aryC G 0 5, aryC G 0 5]) _ _ _ _ _
  refine ev_vret rfl ?_
  exact h _ (by omega)
def modC (G : Gw) (a : Nat) : List va_E := [.inr (6, [.int 0, .int 0, .ref (a + 1), .ref (a + 2), .ref (a + 3), .ref (a + 4), .ref (a + 5), .ref (a + 6), .ref (a + 7), .ref (a + 8), .int 0, .ref (a + 9), .ref (a + 10), .ref (a + 11), .ref (a + 12), .ref (a + 13), .ref (a + 14), .int 0, .ref (a + 15), .ref (a + 16), .ref (a + 17), .ref (a + 18), .ref (a + 19), .long 0, .long 0, .int 0, .ref (a + 20), .ref (a + 21), .ref (a + 22), .ref (a + 23), .ref (a + 24)]), aryC G 1 60, aryC G 1 60, aryC G 1 60, aryC G 1 60, aryC G 0 60, aryC G 0 60, aryC G 0 60, aryC G 2 60, aryC G 0 20, aryC G 1 20, aryC G 1 20, aryC G 0 20, aryC G 2 20, aryC G 2 60, aryC G 1 40, aryC G 2 600, aryC G 1 60, aryC G 1 60, aryC G 0 60, aryC G 0 5, aryC G 0 5, aryC G 0 5, aryC G 1 5, aryC G 1 5]
theorem k7 {G : Gw} {M : Mm} {a sl fr lo : Nat} {Q : Po} (h1 : a + 30 ≤ G.b0 + mm_mxC) (h2 : sl + 3000 ≤ mm_mxS) (h3 : 2 ≤ fr) (h4 : 100 ≤ lo) (h : ∀ sl', sl' ≤ sl + 3000 → Q (.inl none) (ov M a (modC G a)) (a + 25) sl') : Ev G 7 0 (loEnt 1 [.ref a]) [] (ov M a [.inr (6, obDf 6)]) (a + 1) sl fr lo Q := by
  refine ev_run 1 (pc' := 1) (ls' := [some (.ref a)]) (st' := [.ref a]) rfl ?_
  refine ev_obj rfl (by omega) (show 0 + 12 ≤ lo from by omega) ?_
  refine ev_run 2 (pc' := 7) (ls' := [some (.ref a)]) (st' := [.int (Int32.ofInt 60), .ref a]) rfl ?_
  refine bv_newa (a := a) (n := 1) rfl rfl 60 rfl (by decide) (by omega) (by omega) (by decide) ?_
  show Ev G 7 9 [some (.ref a)] [.ref (a + 1), .ref a] (ov M a [.inr (6, [.int 0, .int 0, .null, .null, .null, .null, .null, .null, .null, .null, .int 0, .null, .null, .null, .null, .null, .null, .int 0, .null, .null, .null, .null, .null, .long 0, .long 0, .int 0, .null, .null, .null, .null, .null]), aryC G 1 60]) _ _ _ _ _
  refine bv_put (a := a) 0 rfl rfl (Nat.le_of_ble_eq_true rfl) rfl rfl ?_
  show Ev G 7 12 [some (.ref a)] [] (ov M a [.inr (6, [.int 0, .int 0, .ref (a + 1), .null, .null, .null, .null, .null, .null, .null, .int 0, .null, .null, .null, .null, .null, .null, .int 0, .null, .null, .null, .null, .null, .long 0, .long 0, .int 0, .null, .null, .null, .null, .null]), aryC G 1 60]) _ _ _ _ _
  refine ev_run 2 (pc' := 15) (ls' := [some (.ref a)]) (st' := [.int (Int32.ofInt 60), .ref a]) rfl ?_
  refine bv_newa (a := a) (n := 2) rfl rfl 60 rfl (by decide) (by omega) (by omega) (by decide) ?_
  show Ev G 7 17 [some (.ref a)] [.ref (a + 2), .ref a] (ov M a [.inr (6, [.int 0, .int 0, .ref (a + 1), .null, .null, .null, .null, .null, .null, .null, .int 0, .null, .null, .null, .null, .null, .null, .int 0, .null, .null, .null, .null, .null, .long 0, .long 0, .int 0, .null, .null, .null, .null, .null]), aryC G 1 60, aryC G 1 60]) _ _ _ _ _
  refine bv_put (a := a) 0 rfl rfl (Nat.le_of_ble_eq_true rfl) rfl rfl ?_
  show Ev G 7 20 [some (.ref a)] [] (ov M a [.inr (6, [.int 0, .int 0, .ref (a + 1), .ref (a + 2), .null, .null, .null, .null, .null, .null, .int 0, .null, .null, .null, .null, .null, .null, .int 0, .null, .null, .null, .null, .null, .long 0, .long 0, .int 0, .null, .null, .null, .null, .null]), aryC G 1 60, aryC G 1 60]) _ _ _ _ _
  refine ev_run 2 (pc' := 23) (ls' := [some (.ref a)]) (st' := [.int (Int32.ofInt 60), .ref a]) rfl ?_
  refine bv_newa (a := a) (n := 3) rfl rfl 60 rfl (by decide) (by omega) (by omega) (by decide) ?_
  show Ev G 7 25 [some (.ref a)] [.ref (a + 3), .ref a] (ov M a [.inr (6, [.int 0, .int 0, .ref (a + 1), .ref (a + 2), .null, .null, .null, .null, .null, .null, .int 0, .null, .null, .null, .null, .null, .null, .int 0, .null, .null, .null, .null, .null, .long 0, .long 0, .int 0, .null, .null, .null, .null, .null]), aryC G 1 60, aryC G 1 60, aryC G 1 60]) _ _ _ _ _
  refine bv_put (a := a) 0 rfl rfl (Nat.le_of_ble_eq_true rfl) rfl rfl ?_
  show Ev G 7 28 [some (.ref a)] [] (ov M a [.inr (6, [.int 0, .int 0, .ref (a + 1), .ref (a + 2), .ref (a + 3), .null, .null, .null, .null, .null, .int 0, .null, .null, .null, .null, .null, .null, .int 0, .null, .null, .null, .null, .null, .long 0, .long 0, .int 0, .null, .null, .null, .null, .null]), aryC G 1 60, aryC G 1 60, aryC G 1 60]) _ _ _ _ _
  refine ev_run 2 (pc' := 31) (ls' := [some (.ref a)]) (st' := [.int (Int32.ofInt 60), .ref a]) rfl ?_
  refine bv_newa (a := a) (n := 4) rfl rfl 60 rfl (by decide) (by omega) (by omega) (by decide) ?_
  show Ev G 7 33 [some (.ref a)] [.ref (a + 4), .ref a] (ov M a [.inr (6, [.int 0, .int 0, .ref (a + 1), .ref (a + 2), .ref (a + 3), .null, .null, .null, .null, .null, .int 0, .null, .null, .null, .null, .null, .null, .int 0, .null, .null, .null, .null, .null, .long 0, .long 0, .int 0, .null, .null, .null, .null, .null]), aryC G 1 60, aryC G 1 60, aryC G 1 60, aryC G 1 60]) _ _ _ _ _
  refine bv_put (a := a) 0 rfl rfl (Nat.le_of_ble_eq_true rfl) rfl rfl ?_
  show Ev G 7 36 [some (.ref a)] [] (ov M a [.inr (6, [.int 0, .int 0, .ref (a + 1), .ref (a + 2), .ref (a + 3), .ref (a + 4), .null, .null, .null, .null, .int 0, .null, .null, .null, .null, .null, .null, .int 0, .null, .null, .null, .null, .null, .long 0, .long 0, .int 0, .null, .null, .null, .null, .null]), aryC G 1 60, aryC G 1 60, aryC G 1 60, aryC G 1 60]) _ _ _ _ _
  refine ev_run 2 (pc' := 39) (ls' := [some (.ref a)]) (st' := [.int (Int32.ofInt 60), .ref a]) rfl ?_
  refine bv_newa (a := a) (n := 5) rfl rfl 60 rfl (by decide) (by omega) (by omega) (by decide) ?_
  show Ev G 7 41 [some (.ref a)] [.ref (a + 5), .ref a] (ov M a [.inr (6, [.int 0, .int 0, .ref (a + 1), .ref (a + 2), .ref (a + 3), .ref (a + 4), .null, .null, .null, .null, .int 0, .null, .null, .null, .null, .null, .null, .int 0, .null, .null, .null, .null, .null, .long 0, .long 0, .int 0, .null, .null, .null, .null, .null]), aryC G 1 60, aryC G 1 60, aryC G 1 60, aryC G 1 60, aryC G 0 60]) _ _ _ _ _
  refine bv_put (a := a) 0 rfl rfl (Nat.le_of_ble_eq_true rfl) rfl rfl ?_
  show Ev G 7 44 [some (.ref a)] [] (ov M a [.inr (6, [.int 0, .int 0, .ref (a + 1), .ref (a + 2), .ref (a + 3), .ref (a + 4), .ref (a + 5), .null, .null, .null, .int 0, .null, .null, .null, .null, .null, .null, .int 0, .null, .null, .null, .null, .null, .long 0, .long 0, .int 0, .null, .null, .null, .null, .null]), aryC G 1 60, aryC G 1 60, aryC G 1 60, aryC G 1 60, aryC G 0 60]) _ _ _ _ _
  refine ev_run 2 (pc' := 47) (ls' := [some (.ref a)]) (st' := [.int (Int32.ofInt 60), .ref a]) rfl ?_
  refine bv_newa (a := a) (n := 6) rfl rfl 60 rfl (by decide) (by omega) (by omega) (by decide) ?_
  show Ev G 7 49 [some (.ref a)] [.ref (a + 6), .ref a] (ov M a [.inr (6, [.int 0, .int 0, .ref (a + 1), .ref (a + 2), .ref (a + 3), .ref (a + 4), .ref (a + 5), .null, .null, .null, .int 0, .null, .null, .null, .null, .null, .null, .int 0, .null, .null, .null, .null, .null, .long 0, .long 0, .int 0, .null, .null, .null, .null, .null]), aryC G 1 60, aryC G 1 60, aryC G 1 60, aryC G 1 60, aryC G 0 60, aryC G 0 60]) _ _ _ _ _
  refine bv_put (a := a) 0 rfl rfl (Nat.le_of_ble_eq_true rfl) rfl rfl ?_
  show Ev G 7 52 [some (.ref a)] [] (ov M a [.inr (6, [.int 0, .int 0, .ref (a + 1), .ref (a + 2), .ref (a + 3), .ref (a + 4), .ref (a + 5), .ref (a + 6), .null, .null, .int 0, .null, .null, .null, .null, .null, .null, .int 0, .null, .null, .null, .null, .null, .long 0, .long 0, .int 0, .null, .null, .null, .null, .null]), aryC G 1 60, aryC G 1 60, aryC G 1 60, aryC G 1 60, aryC G 0 60, aryC G 0 60]) _ _ _ _ _
  refine ev_run 2 (pc' := 55) (ls' := [some (.ref a)]) (st' := [.int (Int32.ofInt 60), .ref a]) rfl ?_
  refine bv_newa (a := a) (n := 7) rfl rfl 60 rfl (by decide) (by omega) (by omega) (by decide) ?_
  show Ev G 7 57 [some (.ref a)] [.ref (a + 7), .ref a] (ov M a [.inr (6, [.int 0, .int 0, .ref (a + 1), .ref (a + 2), .ref (a + 3), .ref (a + 4), .ref (a + 5), .ref (a + 6), .null, .null, .int 0, .null, .null, .null, .null, .null, .null, .int 0, .null, .null, .null, .null, .null, .long 0, .long 0, .int 0, .null, .null, .null, .null, .null]), aryC G 1 60, aryC G 1 60, aryC G 1 60, aryC G 1 60, aryC G 0 60, aryC G 0 60, aryC G 0 60]) _ _ _ _ _
  refine bv_put (a := a) 0 rfl rfl (Nat.le_of_ble_eq_true rfl) rfl rfl ?_
  show Ev G 7 60 [some (.ref a)] [] (ov M a [.inr (6, [.int 0, .int 0, .ref (a + 1), .ref (a + 2), .ref (a + 3), .ref (a + 4), .ref (a + 5), .ref (a + 6), .ref (a + 7), .null, .int 0, .null, .null, .null, .null, .null, .null, .int 0, .null, .null, .null, .null, .null, .long 0, .long 0, .int 0, .null, .null, .null, .null, .null]), aryC G 1 60, aryC G 1 60, aryC G 1 60, aryC G 1 60, aryC G 0 60, aryC G 0 60, aryC G 0 60]) _ _ _ _ _
  refine ev_run 2 (pc' := 63) (ls' := [some (.ref a)]) (st' := [.int (Int32.ofInt 60), .ref a]) rfl ?_
  refine bv_newa (a := a) (n := 8) rfl rfl 60 rfl (by decide) (by omega) (by omega) (by decide) ?_
  show Ev G 7 65 [some (.ref a)] [.ref (a + 8), .ref a] (ov M a [.inr (6, [.int 0, .int 0, .ref (a + 1), .ref (a + 2), .ref (a + 3), .ref (a + 4), .ref (a + 5), .ref (a + 6), .ref (a + 7), .null, .int 0, .null, .null, .null, .null, .null, .null, .int 0, .null, .null, .null, .null, .null, .long 0, .long 0, .int 0, .null, .null, .null, .null, .null]), aryC G 1 60, aryC G 1 60, aryC G 1 60, aryC G 1 60, aryC G 0 60, aryC G 0 60, aryC G 0 60, aryC G 2 60]) _ _ _ _ _
  refine bv_put (a := a) 0 rfl rfl (Nat.le_of_ble_eq_true rfl) rfl rfl ?_
  show Ev G 7 68 [some (.ref a)] [] (ov M a [.inr (6, [.int 0, .int 0, .ref (a + 1), .ref (a + 2), .ref (a + 3), .ref (a + 4), .ref (a + 5), .ref (a + 6), .ref (a + 7), .ref (a + 8), .int 0, .null, .null, .null, .null, .null, .null, .int 0, .null, .null, .null, .null, .null, .long 0, .long 0, .int 0, .null, .null, .null, .null, .null]), aryC G 1 60, aryC G 1 60, aryC G 1 60, aryC G 1 60, aryC G 0 60, aryC G 0 60, aryC G 0 60, aryC G 2 60]) _ _ _ _ _
  refine ev_run 2 (pc' := 71) (ls' := [some (.ref a)]) (st' := [.int (Int32.ofInt 20), .ref a]) rfl ?_
  refine bv_newa (a := a) (n := 9) rfl rfl 20 rfl (by decide) (by omega) (by omega) (by decide) ?_
  show Ev G 7 73 [some (.ref a)] [.ref (a + 9), .ref a] (ov M a [.inr (6, [.int 0, .int 0, .ref (a + 1), .ref (a + 2), .ref (a + 3), .ref (a + 4), .ref (a + 5), .ref (a + 6), .ref (a + 7), .ref (a + 8), .int 0, .null, .null, .null, .null, .null, .null, .int 0, .null, .null, .null, .null, .null, .long 0, .long 0, .int 0, .null, .null, .null, .null, .null]), aryC G 1 60, aryC G 1 60, aryC G 1 60, aryC G 1 60, aryC G 0 60, aryC G 0 60, aryC G 0 60, aryC G 2 60, aryC G 0 20]) _ _ _ _ _
  refine bv_put (a := a) 0 rfl rfl (Nat.le_of_ble_eq_true rfl) rfl rfl ?_
  show Ev G 7 76 [some (.ref a)] [] (ov M a [.inr (6, [.int 0, .int 0, .ref (a + 1), .ref (a + 2), .ref (a + 3), .ref (a + 4), .ref (a + 5), .ref (a + 6), .ref (a + 7), .ref (a + 8), .int 0, .ref (a + 9), .null, .null, .null, .null, .null, .int 0, .null, .null, .null, .null, .null, .long 0, .long 0, .int 0, .null, .null, .null, .null, .null]), aryC G 1 60, aryC G 1 60, aryC G 1 60, aryC G 1 60, aryC G 0 60, aryC G 0 60, aryC G 0 60, aryC G 2 60, aryC G 0 20]) _ _ _ _ _
  refine ev_run 2 (pc' := 79) (ls' := [some (.ref a)]) (st' := [.int (Int32.ofInt 20), .ref a]) rfl ?_
  refine bv_newa (a := a) (n := 10) rfl rfl 20 rfl (by decide) (by omega) (by omega) (by decide) ?_
  show Ev G 7 81 [some (.ref a)] [.ref (a + 10), .ref a] (ov M a [.inr (6, [.int 0, .int 0, .ref (a + 1), .ref (a + 2), .ref (a + 3), .ref (a + 4), .ref (a + 5), .ref (a + 6), .ref (a + 7), .ref (a + 8), .int 0, .ref (a + 9), .null, .null, .null, .null, .null, .int 0, .null, .null, .null, .null, .null, .long 0, .long 0, .int 0, .null, .null, .null, .null, .null]), aryC G 1 60, aryC G 1 60, aryC G 1 60, aryC G 1 60, aryC G 0 60, aryC G 0 60, aryC G 0 60, aryC G 2 60, aryC G 0 20, aryC G 1 20]) _ _ _ _ _
  refine bv_put (a := a) 0 rfl rfl (Nat.le_of_ble_eq_true rfl) rfl rfl ?_
  show Ev G 7 84 [some (.ref a)] [] (ov M a [.inr (6, [.int 0, .int 0, .ref (a + 1), .ref (a + 2), .ref (a + 3), .ref (a + 4), .ref (a + 5), .ref (a + 6), .ref (a + 7), .ref (a + 8), .int 0, .ref (a + 9), .ref (a + 10), .null, .null, .null, .null, .int 0, .null, .null, .null, .null, .null, .long 0, .long 0, .int 0, .null, .null, .null, .null, .null]), aryC G 1 60, aryC G 1 60, aryC G 1 60, aryC G 1 60, aryC G 0 60, aryC G 0 60, aryC G 0 60, aryC G 2 60, aryC G 0 20, aryC G 1 20]) _ _ _ _ _
  refine ev_run 2 (pc' := 87) (ls' := [some (.ref a)]) (st' := [.int (Int32.ofInt 20), .ref a]) rfl ?_
  refine bv_newa (a := a) (n := 11) rfl rfl 20 rfl (by decide) (by omega) (by omega) (by decide) ?_
  show Ev G 7 89 [some (.ref a)] [.ref (a + 11), .ref a] (ov M a [.inr (6, [.int 0, .int 0, .ref (a + 1), .ref (a + 2), .ref (a + 3), .ref (a + 4), .ref (a + 5), .ref (a + 6), .ref (a + 7), .ref (a + 8), .int 0, .ref (a + 9), .ref (a + 10), .null, .null, .null, .null, .int 0, .null, .null, .null, .null, .null, .long 0, .long 0, .int 0, .null, .null, .null, .null, .null]), aryC G 1 60, aryC G 1 60, aryC G 1 60, aryC G 1 60, aryC G 0 60, aryC G 0 60, aryC G 0 60, aryC G 2 60, aryC G 0 20, aryC G 1 20, aryC G 1 20]) _ _ _ _ _
  refine bv_put (a := a) 0 rfl rfl (Nat.le_of_ble_eq_true rfl) rfl rfl ?_
  show Ev G 7 92 [some (.ref a)] [] (ov M a [.inr (6, [.int 0, .int 0, .ref (a + 1), .ref (a + 2), .ref (a + 3), .ref (a + 4), .ref (a + 5), .ref (a + 6), .ref (a + 7), .ref (a + 8), .int 0, .ref (a + 9), .ref (a + 10), .ref (a + 11), .null, .null, .null, .int 0, .null, .null, .null, .null, .null, .long 0, .long 0, .int 0, .null, .null, .null, .null, .null]), aryC G 1 60, aryC G 1 60, aryC G 1 60, aryC G 1 60, aryC G 0 60, aryC G 0 60, aryC G 0 60, aryC G 2 60, aryC G 0 20, aryC G 1 20, aryC G 1 20]) _ _ _ _ _
  refine ev_run 2 (pc' := 95) (ls' := [some (.ref a)]) (st' := [.int (Int32.ofInt 20), .ref a]) rfl ?_
  refine bv_newa (a := a) (n := 12) rfl rfl 20 rfl (by decide) (by omega) (by omega) (by decide) ?_
  show Ev G 7 97 [some (.ref a)] [.ref (a + 12), .ref a] (ov M a [.inr (6, [.int 0, .int 0, .ref (a + 1), .ref (a + 2), .ref (a + 3), .ref (a + 4), .ref (a + 5), .ref (a + 6), .ref (a + 7), .ref (a + 8), .int 0, .ref (a + 9), .ref (a + 10), .ref (a + 11), .null, .null, .null, .int 0, .null, .null, .null, .null, .null, .long 0, .long 0, .int 0, .null, .null, .null, .null, .null]), aryC G 1 60, aryC G 1 60, aryC G 1 60, aryC G 1 60, aryC G 0 60, aryC G 0 60, aryC G 0 60, aryC G 2 60, aryC G 0 20, aryC G 1 20, aryC G 1 20, aryC G 0 20]) _ _ _ _ _
  refine bv_put (a := a) 0 rfl rfl (Nat.le_of_ble_eq_true rfl) rfl rfl ?_
  show Ev G 7 100 [some (.ref a)] [] (ov M a [.inr (6, [.int 0, .int 0, .ref (a + 1), .ref (a + 2), .ref (a + 3), .ref (a + 4), .ref (a + 5), .ref (a + 6), .ref (a + 7), .ref (a + 8), .int 0, .ref (a + 9), .ref (a + 10), .ref (a + 11), .ref (a + 12), .null, .null, .int 0, .null, .null, .null, .null, .null, .long 0, .long 0, .int 0, .null, .null, .null, .null, .null]), aryC G 1 60, aryC G 1 60, aryC G 1 60, aryC G 1 60, aryC G 0 60, aryC G 0 60, aryC G 0 60, aryC G 2 60, aryC G 0 20, aryC G 1 20, aryC G 1 20, aryC G 0 20]) _ _ _ _ _
  refine ev_run 2 (pc' := 103) (ls' := [some (.ref a)]) (st' := [.int (Int32.ofInt 20), .ref a]) rfl ?_
  refine bv_newa (a := a) (n := 13) rfl rfl 20 rfl (by decide) (by omega) (by omega) (by decide) ?_
  show Ev G 7 105 [some (.ref a)] [.ref (a + 13), .ref a] (ov M a [.inr (6, [.int 0, .int 0, .ref (a + 1), .ref (a + 2), .ref (a + 3), .ref (a + 4), .ref (a + 5), .ref (a + 6), .ref (a + 7), .ref (a + 8), .int 0, .ref (a + 9), .ref (a + 10), .ref (a + 11), .ref (a + 12), .null, .null, .int 0, .null, .null, .null, .null, .null, .long 0, .long 0, .int 0, .null, .null, .null, .null, .null]), aryC G 1 60, aryC G 1 60, aryC G 1 60, aryC G 1 60, aryC G 0 60, aryC G 0 60, aryC G 0 60, aryC G 2 60, aryC G 0 20, aryC G 1 20, aryC G 1 20, aryC G 0 20, aryC G 2 20]) _ _ _ _ _
  refine bv_put (a := a) 0 rfl rfl (Nat.le_of_ble_eq_true rfl) rfl rfl ?_
  show Ev G 7 108 [some (.ref a)] [] (ov M a [.inr (6, [.int 0, .int 0, .ref (a + 1), .ref (a + 2), .ref (a + 3), .ref (a + 4), .ref (a + 5), .ref (a + 6), .ref (a + 7), .ref (a + 8), .int 0, .ref (a + 9), .ref (a + 10), .ref (a + 11), .ref (a + 12), .ref (a + 13), .null, .int 0, .null, .null, .null, .null, .null, .long 0, .long 0, .int 0, .null, .null, .null, .null, .null]), aryC G 1 60, aryC G 1 60, aryC G 1 60, aryC G 1 60, aryC G 0 60, aryC G 0 60, aryC G 0 60, aryC G 2 60, aryC G 0 20, aryC G 1 20, aryC G 1 20, aryC G 0 20, aryC G 2 20]) _ _ _ _ _
  refine ev_run 2 (pc' := 111) (ls' := [some (.ref a)]) (st' := [.int (Int32.ofInt 60), .ref a]) rfl ?_
  refine bv_newa (a := a) (n := 14) rfl rfl 60 rfl (by decide) (by omega) (by omega) (by decide) ?_
  show Ev G 7 113 [some (.ref a)] [.ref (a + 14), .ref a] (ov M a [.inr (6, [.int 0, .int 0, .ref (a + 1), .ref (a + 2), .ref (a + 3), .ref (a + 4), .ref (a + 5), .ref (a + 6), .ref (a + 7), .ref (a + 8), .int 0, .ref (a + 9), .ref (a + 10), .ref (a + 11), .ref (a + 12), .ref (a + 13), .null, .int 0, .null, .null, .null, .null, .null, .long 0, .long 0, .int 0, .null, .null, .null, .null, .null]), aryC G 1 60, aryC G 1 60, aryC G 1 60, aryC G 1 60, aryC G 0 60, aryC G 0 60, aryC G 0 60, aryC G 2 60, aryC G 0 20, aryC G 1 20, aryC G 1 20, aryC G 0 20, aryC G 2 20, aryC G 2 60]) _ _ _ _ _
  refine bv_put (a := a) 0 rfl rfl (Nat.le_of_ble_eq_true rfl) rfl rfl ?_
  show Ev G 7 116 [some (.ref a)] [] (ov M a [.inr (6, [.int 0, .int 0, .ref (a + 1), .ref (a + 2), .ref (a + 3), .ref (a + 4), .ref (a + 5), .ref (a + 6), .ref (a + 7), .ref (a + 8), .int 0, .ref (a + 9), .ref (a + 10), .ref (a + 11), .ref (a + 12), .ref (a + 13), .ref (a + 14), .int 0, .null, .null, .null, .null, .null, .long 0, .long 0, .int 0, .null, .null, .null, .null, .null]), aryC G 1 60, aryC G 1 60, aryC G 1 60, aryC G 1 60, aryC G 0 60, aryC G 0 60, aryC G 0 60, aryC G 2 60, aryC G 0 20, aryC G 1 20, aryC G 1 20, aryC G 0 20, aryC G 2 20, aryC G 2 60]) _ _ _ _ _
  refine ev_run 2 (pc' := 119) (ls' := [some (.ref a)]) (st' := [.int (Int32.ofInt 40), .ref a]) rfl ?_
  refine bv_newa (a := a) (n := 15) rfl rfl 40 rfl (by decide) (by omega) (by omega) (by decide) ?_
  show Ev G 7 121 [some (.ref a)] [.ref (a + 15), .ref a] (ov M a [.inr (6, [.int 0, .int 0, .ref (a + 1), .ref (a + 2), .ref (a + 3), .ref (a + 4), .ref (a + 5), .ref (a + 6), .ref (a + 7), .ref (a + 8), .int 0, .ref (a + 9), .ref (a + 10), .ref (a + 11), .ref (a + 12), .ref (a + 13), .ref (a + 14), .int 0, .null, .null, .null, .null, .null, .long 0, .long 0, .int 0, .null, .null, .null, .null, .null]), aryC G 1 60, aryC G 1 60, aryC G 1 60, aryC G 1 60, aryC G 0 60, aryC G 0 60, aryC G 0 60, aryC G 2 60, aryC G 0 20, aryC G 1 20, aryC G 1 20, aryC G 0 20, aryC G 2 20, aryC G 2 60, aryC G 1 40]) _ _ _ _ _
  refine bv_put (a := a) 0 rfl rfl (Nat.le_of_ble_eq_true rfl) rfl rfl ?_
  show Ev G 7 124 [some (.ref a)] [] (ov M a [.inr (6, [.int 0, .int 0, .ref (a + 1), .ref (a + 2), .ref (a + 3), .ref (a + 4), .ref (a + 5), .ref (a + 6), .ref (a + 7), .ref (a + 8), .int 0, .ref (a + 9), .ref (a + 10), .ref (a + 11), .ref (a + 12), .ref (a + 13), .ref (a + 14), .int 0, .ref (a + 15), .null, .null, .null, .null, .long 0, .long 0, .int 0, .null, .null, .null, .null, .null]), aryC G 1 60, aryC G 1 60, aryC G 1 60, aryC G 1 60, aryC G 0 60, aryC G 0 60, aryC G 0 60, aryC G 2 60, aryC G 0 20, aryC G 1 20, aryC G 1 20, aryC G 0 20, aryC G 2 20, aryC G 2 60, aryC G 1 40]) _ _ _ _ _
  refine ev_run 2 (pc' := 128) (ls' := [some (.ref a)]) (st' := [.int (Int32.ofInt 600), .ref a]) rfl ?_
  refine bv_newa (a := a) (n := 16) rfl rfl 600 rfl (by decide) (by omega) (by omega) (by decide) ?_
  show Ev G 7 130 [some (.ref a)] [.ref (a + 16), .ref a] (ov M a [.inr (6, [.int 0, .int 0, .ref (a + 1), .ref (a + 2), .ref (a + 3), .ref (a + 4), .ref (a + 5), .ref (a + 6), .ref (a + 7), .ref (a + 8), .int 0, .ref (a + 9), .ref (a + 10), .ref (a + 11), .ref (a + 12), .ref (a + 13), .ref (a + 14), .int 0, .ref (a + 15), .null, .null, .null, .null, .long 0, .long 0, .int 0, .null, .null, .null, .null, .null]), aryC G 1 60, aryC G 1 60, aryC G 1 60, aryC G 1 60, aryC G 0 60, aryC G 0 60, aryC G 0 60, aryC G 2 60, aryC G 0 20, aryC G 1 20, aryC G 1 20, aryC G 0 20, aryC G 2 20, aryC G 2 60, aryC G 1 40, aryC G 2 600]) _ _ _ _ _
  refine bv_put (a := a) 0 rfl rfl (Nat.le_of_ble_eq_true rfl) rfl rfl ?_
  show Ev G 7 133 [some (.ref a)] [] (ov M a [.inr (6, [.int 0, .int 0, .ref (a + 1), .ref (a + 2), .ref (a + 3), .ref (a + 4), .ref (a + 5), .ref (a + 6), .ref (a + 7), .ref (a + 8), .int 0, .ref (a + 9), .ref (a + 10), .ref (a + 11), .ref (a + 12), .ref (a + 13), .ref (a + 14), .int 0, .ref (a + 15), .ref (a + 16), .null, .null, .null, .long 0, .long 0, .int 0, .null, .null, .null, .null, .null]), aryC G 1 60, aryC G 1 60, aryC G 1 60, aryC G 1 60, aryC G 0 60, aryC G 0 60, aryC G 0 60, aryC G 2 60, aryC G 0 20, aryC G 1 20, aryC G 1 20, aryC G 0 20, aryC G 2 20, aryC G 2 60, aryC G 1 40, aryC G 2 600]) _ _ _ _ _
  refine ev_run 2 (pc' := 136) (ls' := [some (.ref a)]) (st' := [.int (Int32.ofInt 60), .ref a]) rfl ?_
  refine bv_newa (a := a) (n := 17) rfl rfl 60 rfl (by decide) (by omega) (by omega) (by decide) ?_
  show Ev G 7 138 [some (.ref a)] [.ref (a + 17), .ref a] (ov M a [.inr (6, [.int 0, .int 0, .ref (a + 1), .ref (a + 2), .ref (a + 3), .ref (a + 4), .ref (a + 5), .ref (a + 6), .ref (a + 7), .ref (a + 8), .int 0, .ref (a + 9), .ref (a + 10), .ref (a + 11), .ref (a + 12), .ref (a + 13), .ref (a + 14), .int 0, .ref (a + 15), .ref (a + 16), .null, .null, .null, .long 0, .long 0, .int 0, .null, .null, .null, .null, .null]), aryC G 1 60, aryC G 1 60, aryC G 1 60, aryC G 1 60, aryC G 0 60, aryC G 0 60, aryC G 0 60, aryC G 2 60, aryC G 0 20, aryC G 1 20, aryC G 1 20, aryC G 0 20, aryC G 2 20, aryC G 2 60, aryC G 1 40, aryC G 2 600, aryC G 1 60]) _ _ _ _ _
  refine bv_put (a := a) 0 rfl rfl (Nat.le_of_ble_eq_true rfl) rfl rfl ?_
  show Ev G 7 141 [some (.ref a)] [] (ov M a [.inr (6, [.int 0, .int 0, .ref (a + 1), .ref (a + 2), .ref (a + 3), .ref (a + 4), .ref (a + 5), .ref (a + 6), .ref (a + 7), .ref (a + 8), .int 0, .ref (a + 9), .ref (a + 10), .ref (a + 11), .ref (a + 12), .ref (a + 13), .ref (a + 14), .int 0, .ref (a + 15), .ref (a + 16), .ref (a + 17), .null, .null, .long 0, .long 0, .int 0, .null, .null, .null, .null, .null]), aryC G 1 60, aryC G 1 60, aryC G 1 60, aryC G 1 60, aryC G 0 60, aryC G 0 60, aryC G 0 60, aryC G 2 60, aryC G 0 20, aryC G 1 20, aryC G 1 20, aryC G 0 20, aryC G 2 20, aryC G 2 60, aryC G 1 40, aryC G 2 600, aryC G 1 60]) _ _ _ _ _
  refine ev_run 2 (pc' := 144) (ls' := [some (.ref a)]) (st' := [.int (Int32.ofInt 60), .ref a]) rfl ?_
  refine bv_newa (a := a) (n := 18) rfl rfl 60 rfl (by decide) (by omega) (by omega) (by decide) ?_
  show Ev G 7 146 [some (.ref a)] [.ref (a + 18), .ref a] (ov M a [.inr (6, [.int 0, .int 0, .ref (a + 1), .ref (a + 2), .ref (a + 3), .ref (a + 4), .ref (a + 5), .ref (a + 6), .ref (a + 7), .ref (a + 8), .int 0, .ref (a + 9), .ref (a + 10), .ref (a + 11), .ref (a + 12), .ref (a + 13), .ref (a + 14), .int 0, .ref (a + 15), .ref (a + 16), .ref (a + 17), .null, .null, .long 0, .long 0, .int 0, .null, .null, .null, .null, .null]), aryC G 1 60, aryC G 1 60, aryC G 1 60, aryC G 1 60, aryC G 0 60, aryC G 0 60, aryC G 0 60, aryC G 2 60, aryC G 0 20, aryC G 1 20, aryC G 1 20, aryC G 0 20, aryC G 2 20, aryC G 2 60, aryC G 1 40, aryC G 2 600, aryC G 1 60, aryC G 1 60]) _ _ _ _ _
  refine bv_put (a := a) 0 rfl rfl (Nat.le_of_ble_eq_true rfl) rfl rfl ?_
  show Ev G 7 149 [some (.ref a)] [] (ov M a [.inr (6, [.int 0, .int 0, .ref (a + 1), .ref (a + 2), .ref (a + 3), .ref (a + 4), .ref (a + 5), .ref (a + 6), .ref (a + 7), .ref (a + 8), .int 0, .ref (a + 9), .ref (a + 10), .ref (a + 11), .ref (a + 12), .ref (a + 13), .ref (a + 14), .int 0, .ref (a + 15), .ref (a + 16), .ref (a + 17), .ref (a + 18), .null, .long 0, .long 0, .int 0, .null, .null, .null, .null, .null]), aryC G 1 60, aryC G 1 60, aryC G 1 60, aryC G 1 60, aryC G 0 60, aryC G 0 60, aryC G 0 60, aryC G 2 60, aryC G 0 20, aryC G 1 20, aryC G 1 20, aryC G 0 20, aryC G 2 20, aryC G 2 60, aryC G 1 40, aryC G 2 600, aryC G 1 60, aryC G 1 60]) _ _ _ _ _
  refine ev_run 2 (pc' := 152) (ls' := [some (.ref a)]) (st' := [.int (Int32.ofInt 60), .ref a]) rfl ?_
  refine bv_newa (a := a) (n := 19) rfl rfl 60 rfl (by decide) (by omega) (by omega) (by decide) ?_
  show Ev G 7 154 [some (.ref a)] [.ref (a + 19), .ref a] (ov M a [.inr (6, [.int 0, .int 0, .ref (a + 1), .ref (a + 2), .ref (a + 3), .ref (a + 4), .ref (a + 5), .ref (a + 6), .ref (a + 7), .ref (a + 8), .int 0, .ref (a + 9), .ref (a + 10), .ref (a + 11), .ref (a + 12), .ref (a + 13), .ref (a + 14), .int 0, .ref (a + 15), .ref (a + 16), .ref (a + 17), .ref (a + 18), .null, .long 0, .long 0, .int 0, .null, .null, .null, .null, .null]), aryC G 1 60, aryC G 1 60, aryC G 1 60, aryC G 1 60, aryC G 0 60, aryC G 0 60, aryC G 0 60, aryC G 2 60, aryC G 0 20, aryC G 1 20, aryC G 1 20, aryC G 0 20, aryC G 2 20, aryC G 2 60, aryC G 1 40, aryC G 2 600, aryC G 1 60, aryC G 1 60, aryC G 0 60]) _ _ _ _ _
  refine bv_put (a := a) 0 rfl rfl (Nat.le_of_ble_eq_true rfl) rfl rfl ?_
  show Ev G 7 157 [some (.ref a)] [] (ov M a [.inr (6, [.int 0, .int 0, .ref (a + 1), .ref (a + 2), .ref (a + 3), .ref (a + 4), .ref (a + 5), .ref (a + 6), .ref (a + 7), .ref (a + 8), .int 0, .ref (a + 9), .ref (a + 10), .ref (a + 11), .ref (a + 12), .ref (a + 13), .ref (a + 14), .int 0, .ref (a + 15), .ref (a + 16), .ref (a + 17), .ref (a + 18), .ref (a + 19), .long 0, .long 0, .int 0, .null, .null, .null, .null, .null]), aryC G 1 60, aryC G 1 60, aryC G 1 60, aryC G 1 60, aryC G 0 60, aryC G 0 60, aryC G 0 60, aryC G 2 60, aryC G 0 20, aryC G 1 20, aryC G 1 20, aryC G 0 20, aryC G 2 20, aryC G 2 60, aryC G 1 40, aryC G 2 600, aryC G 1 60, aryC G 1 60, aryC G 0 60]) _ _ _ _ _
  refine ev_run 2 (pc' := 159) (ls' := [some (.ref a)]) (st' := [.int (Int32.ofInt 5), .ref a]) rfl ?_
  refine bv_newa (a := a) (n := 20) rfl rfl 5 rfl (by decide) (by omega) (by omega) (by decide) ?_
  show Ev G 7 161 [some (.ref a)] [.ref (a + 20), .ref a] (ov M a [.inr (6, [.int 0, .int 0, .ref (a + 1), .ref (a + 2), .ref (a + 3), .ref (a + 4), .ref (a + 5), .ref (a + 6), .ref (a + 7), .ref (a + 8), .int 0, .ref (a + 9), .ref (a + 10), .ref (a + 11), .ref (a + 12), .ref (a + 13), .ref (a + 14), .int 0, .ref (a + 15), .ref (a + 16), .ref (a + 17), .ref (a + 18), .ref (a + 19), .long 0, .long 0, .int 0, .null, .null, .null, .null, .null]), aryC G 1 60, aryC G 1 60, aryC G 1 60, aryC G 1 60, aryC G 0 60, aryC G 0 60, aryC G 0 60, aryC G 2 60, aryC G 0 20, aryC G 1 20, aryC G 1 20, aryC G 0 20, aryC G 2 20, aryC G 2 60, aryC G 1 40, aryC G 2 600, aryC G 1 60, aryC G 1 60, aryC G 0 60, aryC G 0 5]) _ _ _ _ _
  refine bv_put (a := a) 0 rfl rfl (Nat.le_of_ble_eq_true rfl) rfl rfl ?_
  show Ev G 7 164 [some (.ref a)] [] (ov M a [.inr (6, [.int 0, .int 0, .ref (a + 1), .ref (a + 2), .ref (a + 3), .ref (a + 4), .ref (a + 5), .ref (a + 6), .ref (a + 7), .ref (a + 8), .int 0, .ref (a + 9), .ref (a + 10), .ref (a + 11), .ref (a + 12), .ref (a + 13), .ref (a + 14), .int 0, .ref (a + 15), .ref (a + 16), .ref (a + 17), .ref (a + 18), .ref (a + 19), .long 0, .long 0, .int 0, .ref (a + 20), .null, .null, .null, .null]), aryC G 1 60, aryC G 1 60, aryC G 1 60, aryC G 1 60, aryC G 0 60, aryC G 0 60, aryC G 0 60, aryC G 2 60, aryC G 0 20, aryC G 1 20, aryC G 1 20, aryC G 0 20, aryC G 2 20, aryC G 2 60, aryC G 1 40, aryC G 2 600, aryC G 1 60, aryC G 1 60, aryC G 0 60, aryC G 0 5]) _ _ _ _ _
  refine ev_run 2 (pc' := 166) (ls' := [some (.ref a)]) (st' := [.int (Int32.ofInt 5), .ref a]) rfl ?_
  refine bv_newa (a := a) (n := 21) rfl rfl 5 rfl (by decide) (by omega) (by omega) (by decide) ?_
  show Ev G 7 168 [some (.ref a)] [.ref (a + 21), .ref a] (ov M a [.inr (6, [.int 0, .int 0, .ref (a + 1), .ref (a + 2), .ref (a + 3), .ref (a + 4), .ref (a + 5), .ref (a + 6), .ref (a + 7), .ref (a + 8), .int 0, .ref (a + 9), .ref (a + 10), .ref (a + 11), .ref (a + 12), .ref (a + 13), .ref (a + 14), .int 0, .ref (a + 15), .ref (a + 16), .ref (a + 17), .ref (a + 18), .ref (a + 19), .long 0, .long 0, .int 0, .ref (a + 20), .null, .null, .null, .null]), aryC G 1 60, aryC G 1 60, aryC G 1 60, aryC G 1 60, aryC G 0 60, aryC G 0 60, aryC G 0 60, aryC G 2 60, aryC G 0 20, aryC G 1 20, aryC G 1 20, aryC G 0 20, aryC G 2 20, aryC G 2 60, aryC G 1 40, aryC G 2 600, aryC G 1 60, aryC G 1 60, aryC G 0 60, aryC G 0 5, aryC G 0 5]) _ _ _ _ _
  refine bv_put (a := a) 0 rfl rfl (Nat.le_of_ble_eq_true rfl) rfl rfl ?_
  show Ev G 7 171 [some (.ref a)] [] (ov M a [.inr (6, [.int 0, .int 0, .ref (a + 1), .ref (a + 2), .ref (a + 3), .ref (a + 4), .ref (a + 5), .ref (a + 6), .ref (a + 7), .ref (a + 8), .int 0, .ref (a + 9), .ref (a + 10), .ref (a + 11), .ref (a + 12), .ref (a + 13), .ref (a + 14), .int 0, .ref (a + 15), .ref (a + 16), .ref (a + 17), .ref (a + 18), .ref (a + 19), .long 0, .long 0, .int 0, .ref (a + 20), .ref (a + 21), .null, .null, .null]), aryC G 1 60, aryC G 1 60, aryC G 1 60, aryC G 1 60, aryC G 0 60, aryC G 0 60, aryC G 0 60, aryC G 2 60, aryC G 0 20, aryC G 1 20, aryC G 1 20, aryC G 0 20, aryC G 2 20, aryC G 2 60, aryC G 1 40, aryC G 2 600, aryC G 1 60, aryC G 1 60, aryC G 0 60, aryC G 0 5, aryC G 0 5]) _ _ _ _ _
  refine ev_run 2 (pc' := 173) (ls' := [some (.ref a)]) (st' := [.int (Int32.ofInt 5), .ref a]) rfl ?_
  refine bv_newa (a := a) (n := 22) rfl rfl 5 rfl (by decide) (by omega) (by omega) (by decide) ?_
  show Ev G 7 175 [some (.ref a)] [.ref (a + 22), .ref a] (ov M a [.inr (6, [.int 0, .int 0, .ref (a + 1), .ref (a + 2), .ref (a + 3), .ref (a + 4), .ref (a + 5), .ref (a + 6), .ref (a + 7), .ref (a + 8), .int 0, .ref (a + 9), .ref (a + 10), .ref (a + 11), .ref (a + 12), .ref (a + 13), .ref (a + 14), .int 0, .ref (a + 15), .ref (a + 16), .ref (a + 17), .ref (a + 18), .ref (a + 19), .long 0, .long 0, .int 0, .ref (a + 20), .ref (a + 21), .null, .null, .null]), aryC G 1 60, aryC G 1 60, aryC G 1 60, aryC G 1 60, aryC G 0 60, aryC G 0 60, aryC G 0 60, aryC G 2 60, aryC G 0 20, aryC G 1 20, aryC G 1 20, aryC G 0 20, aryC G 2 20, aryC G 2 60, aryC G 1 40, aryC G 2 600, aryC G 1 60, aryC G 1 60, aryC G 0 60, aryC G 0 5, aryC G 0 5, aryC G 0 5]) _ _ _ _ _
  refine bv_put (a := a) 0 rfl rfl (Nat.le_of_ble_eq_true rfl) rfl rfl ?_
  show Ev G 7 178 [some (.ref a)] [] (ov M a [.inr (6, [.int 0, .int 0, .ref (a + 1), .ref (a + 2), .ref (a + 3), .ref (a + 4), .ref (a + 5), .ref (a + 6), .ref (a + 7), .ref (a + 8), .int 0, .ref (a + 9), .ref (a + 10), .ref (a + 11), .ref (a + 12), .ref (a + 13), .ref (a + 14), .int 0, .ref (a + 15), .ref (a + 16), .ref (a + 17), .ref (a + 18), .ref (a + 19), .long 0, .long 0, .int 0, .ref (a + 20), .ref (a + 21), .ref (a + 22), .null, .null]), aryC G 1 60, aryC G 1 60, aryC G 1 60, aryC G 1 60, aryC G 0 60, aryC G 0 60, aryC G 0 60, aryC G 2 60, aryC G 0 20, aryC G 1 20, aryC G 1 20, aryC G 0 20, aryC G 2 20, aryC G 2 60, aryC G 1 40, aryC G 2 600, aryC G 1 60, aryC G 1 60, aryC G 0 60, aryC G 0 5, aryC G 0 5, aryC G 0 5]) _ _ _ _ _
  refine ev_run 2 (pc' := 180) (ls' := [some (.ref a)]) (st' := [.int (Int32.ofInt 5), .ref a]) rfl ?_
  refine bv_newa (a := a) (n := 23) rfl rfl 5 rfl (by decide) (by omega) (by omega) (by decide) ?_
  show Ev G 7 182 [some (.ref a)] [.ref (a + 23), .ref a] (ov M a [.inr (6, [.int 0, .int 0, .ref (a + 1), .ref (a + 2), .ref (a + 3), .ref (a + 4), .ref (a + 5), .ref (a + 6), .ref (a + 7), .ref (a + 8), .int 0, .ref (a + 9), .ref (a + 10), .ref (a + 11), .ref (a + 12), .ref (a + 13), .ref (a + 14), .int 0, .ref (a + 15), .ref (a + 16), .ref (a + 17), .ref (a + 18), .ref (a + 19), .long 0, .long 0, .int 0, .ref (a + 20), .ref (a + 21), .ref (a + 22), .null, .null]), aryC G 1 60, aryC G 1 60, aryC G 1 60, aryC G 1 60, aryC G 0 60, aryC G 0 60, aryC G 0 60, aryC G 2 60, aryC G 0 20, aryC G 1 20, aryC G 1 20, aryC G 0 20, aryC G 2 20, aryC G 2 60, aryC G 1 40, aryC G 2 600, aryC G 1 60, aryC G 1 60, aryC G 0 60, aryC G 0 5, aryC G 0 5, aryC G 0 5, aryC G 1 5]) _ _ _ _ _
  refine bv_put (a := a) 0 rfl rfl (Nat.le_of_ble_eq_true rfl) rfl rfl ?_
  show Ev G 7 185 [some (.ref a)] [] (ov M a [.inr (6, [.int 0, .int 0, .ref (a + 1), .ref (a + 2), .ref (a + 3), .ref (a + 4), .ref (a + 5), .ref (a + 6), .ref (a + 7), .ref (a + 8), .int 0, .ref (a + 9), .ref (a + 10), .ref (a + 11), .ref (a + 12), .ref (a + 13), .ref (a + 14), .int 0, .ref (a + 15), .ref (a + 16), .ref (a + 17), .ref (a + 18), .ref (a + 19), .long 0, .long 0, .int 0, .ref (a + 20), .ref (a + 21), .ref (a + 22), .ref (a + 23), .null]), aryC G 1 60, aryC G 1 60, aryC G 1 60, aryC G 1 60, aryC G 0 60, aryC G 0 60, aryC G 0 60, aryC G 2 60, aryC G 0 20, aryC G 1 20, aryC G 1 20, aryC G 0 20, aryC G 2 20, aryC G 2 60, aryC G 1 40, aryC G 2 600, aryC G 1 60, aryC G 1 60, aryC G 0 60, aryC G 0 5, aryC G 0 5, aryC G 0 5, aryC G 1 5]) _ _ _ _ _
  refine ev_run 2 (pc' := 187) (ls' := [some (.ref a)]) (st' := [.int (Int32.ofInt 5), .ref a]) rfl ?_
  refine bv_newa (a := a) (n := 24) rfl rfl 5 rfl (by decide) (by omega) (by omega) (by decide) ?_
  show Ev G 7 189 [some (.ref a)] [.ref (a + 24), .ref a] (ov M a [.inr (6, [.int 0, .int 0, .ref (a + 1), .ref (a + 2), .ref (a + 3), .ref (a + 4), .ref (a + 5), .ref (a + 6), .ref (a + 7), .ref (a + 8), .int 0, .ref (a + 9), .ref (a + 10), .ref (a + 11), .ref (a + 12), .ref (a + 13), .ref (a + 14), .int 0, .ref (a + 15), .ref (a + 16), .ref (a + 17), .ref (a + 18), .ref (a + 19), .long 0, .long 0, .int 0, .ref (a + 20), .ref (a + 21), .ref (a + 22), .ref (a + 23), .null]), aryC G 1 60, aryC G 1 60, aryC G 1 60, aryC G 1 60, aryC G 0 60, aryC G 0 60, aryC G 0 60, aryC G 2 60, aryC G 0 20, aryC G 1 20, aryC G 1 20, aryC G 0 20, aryC G 2 20, aryC G 2 60, aryC G 1 40, aryC G 2 600, aryC G 1 60, aryC G 1 60, aryC G 0 60, aryC G 0 5, aryC G 0 5, aryC G 0 5, aryC G 1 5, aryC G 1 5]) _ _ _ _ _
  refine bv_put (a := a) 0 rfl rfl (Nat.le_of_ble_eq_true rfl) rfl rfl ?_
  show Ev G 7 192 [some (.ref a)] [] (ov M a [.inr (6, [.int 0, .int 0, .ref (a + 1), .ref (a + 2), .ref (a + 3), .ref (a + 4), .ref (a + 5), .ref (a + 6), .ref (a + 7), .ref (a + 8), .int 0, .ref (a + 9), .ref (a + 10), .ref (a + 11), .ref (a + 12), .ref (a + 13), .ref (a + 14), .int 0, .ref (a + 15), .ref (a + 16), .ref (a + 17), .ref (a + 18), .ref (a + 19), .long 0, .long 0, .int 0, .ref (a + 20), .ref (a + 21), .ref (a + 22), .ref (a + 23), .ref (a + 24)]), aryC G 1 60, aryC G 1 60, aryC G 1 60, aryC G 1 60, aryC G 0 60, aryC G 0 60, aryC G 0 60, aryC G 2 60, aryC G 0 20, aryC G 1 20, aryC G 1 20, aryC G 0 20, aryC G 2 20, aryC G 2 60, aryC G 1 40, aryC G 2 600, aryC G 1 60, aryC G 1 60, aryC G 0 60, aryC G 0 5, aryC G 0 5, aryC G 0 5, aryC G 1 5, aryC G 1 5]) _ _ _ _ _
  refine ev_vret rfl ?_
  exact h _ (by omega)
/-- so many are filled -/
def ff (i : Nat) : Nat → Int32 := fun j => if j < i then -1 else 0
theorem ff_z : ff 0 = fun _ => 0 := by
  funext j
  unfold ff
  rw [if_neg (Nat.not_lt_zero j)]
theorem ff_s (i : Nat) : upd (ff i) i (-1) = ff (i + 1) := by
  funext j
  unfold upd ff
  by_cases e : j = i
  · subst e
    rw [if_pos rfl, if_pos (by omega)]
  · rw [if_neg e]
    by_cases g : j < i
    · rw [if_pos g, if_pos (by omega)]
    · rw [if_neg g, if_neg (by omega)]
theorem nI_geq {i N : Nat} (hi : i < 1000) (hN : N < 1000) : cndI .ge (nI i) (nI N) ↔ N ≤ i := by
  have := ci_i (a := (i : Int)) (b := (N : Int)) ⟨by omega, by omega⟩ ⟨by omega, by omega⟩ .ge
  rw [i32_nI, i32_nI] at this
  rw [this]
  show (N : Int) ≤ i ↔ N ≤ i
  omega
def fillC (G : Gw) (i : Nat) : va_E := .inl (G.dA 0, 20, .inl (ff i))
theorem k3_l {G : Gw} {M : Mm} {a sz sl fr lo : Nat} {Q : Po} {c : va_E} (h : Q (.inl none) (ov M a [c, fillC G 20]) sz sl) : ∀ (n i : Nat), i + n = 20 → Ev G 3 5 [some (.ref (a + 1)), some (.int (-1)), some (.int (nI i)), some (.int (nI 20))] [] (ov M a [c, fillC G i]) sz sl fr lo Q := by
  intro n
  induction n with
  | zero =>
    intro i hi
    have e : i = 20 := by omega
    subst e
    refine ev_run 2 (pc' := 7) (ls' := [some (.ref (a + 1)), some (.int (-1)), some (.int (nI 20)), some (.int (nI 20))]) (st' := [.int (nI 20), .int (nI 20)]) rfl ?_
    refine ev_icmp rfl 20 rfl (fun _ => ?_) (fun g => absurd ((nI_geq (by omega) (by omega)).mpr (Nat.le_refl 20)) g)
    refine ev_vret rfl ?_
    exact h
  | succ n ih =>
    intro i hi
    refine ev_run 2 (pc' := 7) (ls' := [some (.ref (a + 1)), some (.int (-1)), some (.int (nI i)), some (.int (nI 20))]) (st' := [.int (nI 20), .int (nI i)]) rfl ?_
    refine ev_icmp rfl 20 rfl (fun g => absurd ((nI_geq (by omega) (by omega)).mp g) (by omega)) (fun _ => ?_)
    refine ev_run 3 (pc' := 13) (ls' := [some (.ref (a + 1)), some (.int (-1)), some (.int (nI i)), some (.int (nI 20))]) (st' := [.int (-1), .int (nI i), .ref (a + 1)]) rfl ?_
    refine ev_iast (n := 20) (f := ff i) rfl (ov_at (k := 1) rfl) (vp_in_nI (by omega) (by decide)) ?_
    rw [nI_clamp (by omega), ff_s, ov_set (k := 1) (by show 1 < 2; omega)]
    refine ev_run 2 (pc' := 5) (ls' := [some (.ref (a + 1)), some (.int (-1)), some (.int (nI i + 1)), some (.int (nI 20))]) (st' := []) rfl ?_
    rw [← nI_succ]
    exact ih (i + 1) (by omega)
theorem k3 {G : Gw} {M : Mm} {a sz sl fr lo : Nat} {Q : Po} {c : va_E} (h : Q (.inl none) (ov M a [c, fillC G 20]) sz sl) : Ev G 3 0 (loEnt 4 [.ref (a + 1), .int (-1)]) [] (ov M a [c, aryC G 0 20]) sz sl fr lo Q := by
  refine ev_run 3 (pc' := 3) (ls' := [some (.ref (a + 1)), some (.int (-1)), some (.int (nI 0)), none]) (st' := [.ref (a + 1)]) rfl ?_
  refine ev_alen (v := (20, .inl (fun _ => 0))) rfl (ov_at (k := 1) rfl) ?_
  refine ev_run 1 (pc' := 5) (ls' := [some (.ref (a + 1)), some (.int (-1)), some (.int (nI 0)), some (.int (nI 20))]) (st' := []) rfl ?_
  have e : aryC G 0 20 = fillC G 0 := by
    unfold fillC
    rw [ff_z]
    rfl
  rw [e]
  exact k3_l h 20 0 rfl
def chanC (a : Nat) : va_E := .inr (0, [.int (-1), .long 0, .long 0, .int 0, .int 0, .int 0, .ref (a + 1)])
theorem k4 {G : Gw} {M : Mm} {a sl fr lo : Nat} {Q : Po} (h1 : a + 30 ≤ G.b0 + mm_mxC) (h2 : sl + 20 ≤ mm_mxS) (h3 : 2 ≤ fr) (h4 : 100 ≤ lo) (h : ∀ sl', sl' ≤ sl + 20 → Q (.inl none) (ov M a [chanC a, fillC G 20]) (a + 2) sl') : Ev G 4 0 (loEnt 1 [.ref a]) [] (ov M a [.inr (0, obDf 0)]) (a + 1) sl fr lo Q := by
  refine ev_run 1 (pc' := 1) (ls' := [some (.ref a)]) (st' := [.ref a]) rfl ?_
  refine ev_obj rfl (by omega) (show 0 + 12 ≤ lo from by omega) ?_
  refine ev_run 2 (pc' := 6) (ls' := [some (.ref a)]) (st' := [.int (Int32.ofInt (-1)), .ref a]) rfl ?_
  refine bv_put (a := a) 0 rfl rfl (Nat.le_of_ble_eq_true rfl) rfl rfl ?_
  refine ev_run 2 (pc' := 12) (ls' := [some (.ref a)]) (st' := [.int (Int32.ofInt 20), .ref a]) rfl ?_
  refine bv_newa (a := a) (n := 1) rfl rfl 20 rfl (by decide) (by omega) (by omega) (by decide) ?_
  refine bv_put (a := a) 0 rfl rfl (Nat.le_of_ble_eq_true rfl) rfl rfl ?_
  refine ev_run 1 (pc' := 18) (ls' := [some (.ref a)]) (st' := [.ref a]) rfl ?_
  refine bv_get (a := a) 0 rfl rfl rfl ?_
  refine ev_run 1 (pc' := 22) (ls' := [some (.ref a)]) (st' := [.int (Int32.ofInt (-1)), .ref (a + 1)]) rfl ?_
  refine ev_callS (mi := mi3) rfl rfl (As := [.ref (a + 1), .int (-1)]) (rest := []) rfl rfl (Nat.le_of_ble_eq_true rfl) (by omega) (show 4 + 25 ≤ lo from by omega) (Nat.le_of_ble_eq_true rfl) (fun o M' sz' sl' => backP (Ev G) 4 22 [some (.ref a)] [] fr lo Q o M' sz' sl') ?_ (fun _ _ _ _ h => h)
  refine k3 (c := chanC a) ?_
  refine ev_vret rfl ?_
  exact h _ (by omega)
