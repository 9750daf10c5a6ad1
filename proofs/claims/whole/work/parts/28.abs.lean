/-! THE ABSTRACT MACHINE: the memory of both worlds as a store of whole numbers: what kind of thing, which of them, which slot -/
abbrev AV : Type := Int ⊕ (Int ⊕ (Nat × Int))
abbrev aI (z : Int) : AV := .inl z
abbrev aL (z : Int) : AV := .inr (.inl z)
abbrev aR (t : Nat) (i : Int) : AV := .inr (.inr (t, i))
abbrev Sg : Type := Nat → Int → Int → Int
abbrev ALo : Type := List (Option AV)
abbrev AOu : Type := Option AV ⊕ Nat
def su (S : Sg) (t : Nat) (i j v : Int) : Sg := fun t' i' j' => if t' = t ∧ j' = j ∧ i' = i then v else S t' i' j'
/-- things by number: first place, stride, how many, what: an object of a kind, or an array of a type and its length -/
def tgL : List (Nat × Nat × Nat × (Nat ⊕ (Nat × Nat))) := [(0, 0, 1, .inl 5), (14, 1, 60, .inl 2), (74, 2, 20, .inl 0), (75, 2, 20, .inr (0, 20)), (114, 1, 10, .inl 4), (4, 0, 1, .inl 3), (5, 0, 1, .inl 1), (6, 0, 1, .inr (1, 40)), (7, 0, 1, .inr (1, 40)), (8, 0, 1, .inr (1, 40)), (9, 0, 1, .inr (1, 40)), (10, 0, 1, .inr (0, 200)), (11, 0, 1, .inr (0, 30)), (12, 0, 1, .inr (0, 5)), (13, 0, 1, .inr (0, 5)), (1, 0, 1, .inr (3, 60)), (2, 0, 1, .inr (4, 20)), (3, 0, 1, .inr (5, 10)), (0, 0, 0, .inl 9), (0, 0, 0, .inl 9),
  (124, 0, 1, .inl 6), (0, 0, 0, .inl 9), (125, 0, 1, .inr (1, 60)), (126, 0, 1, .inr (1, 60)), (127, 0, 1, .inr (1, 60)), (128, 0, 1, .inr (1, 60)), (129, 0, 1, .inr (0, 60)), (130, 0, 1, .inr (0, 60)), (131, 0, 1, .inr (0, 60)), (132, 0, 1, .inr (2, 60)), (0, 0, 0, .inl 9), (133, 0, 1, .inr (0, 20)), (134, 0, 1, .inr (1, 20)), (135, 0, 1, .inr (1, 20)), (136, 0, 1, .inr (0, 20)), (137, 0, 1, .inr (2, 20)), (138, 0, 1, .inr (2, 60)), (0, 0, 0, .inl 9), (139, 0, 1, .inr (1, 40)), (140, 0, 1, .inr (2, 600)), (141, 0, 1, .inr (1, 60)), (142, 0, 1, .inr (1, 60)), (143, 0, 1, .inr (0, 60)), (0, 0, 0, .inl 9), (0, 0, 0, .inl 9), (0, 0, 0, .inl 9), (144, 0, 1, .inr (0, 5)), (145, 0, 1, .inr (0, 5)), (146, 0, 1, .inr (0, 5)), (147, 0, 1, .inr (1, 5)), (148, 0, 1, .inr (1, 5)), (149, 0, 1, .inr (1, 1))]
def tg (t : Nat) : Nat × Nat × Nat × (Nat ⊕ (Nat × Nat)) := tgL.getD t (0, 0, 0, .inl 9)
def tgC (t : Nat) : Nat := (tg t).2.2.1
def tgS (t : Nat) : Nat ⊕ (Nat × Nat) := (tg t).2.2.2
def nF (k : Nat) : Nat := [7, 9, 12, 7, 5, 9, 31].getD k 0
/-- where a slot that holds a reference points -/
def rfF (t : Nat) (i j : Int) : Nat × Int := match t with
  | 0 => (bif Nat.blt j.toNat 3 then 15 + j.toNat else 2 + j.toNat, 0)
  | 2 => (3, i)
  | 6 => (7 + j.toNat, 0)
  | 15 => (1, j)
  | 16 => (2, j)
  | 17 => (4, j)
  | _ => (20 + j.toNat, 0)
def ad (G : Gw) (t : Nat) (i : Int) : Nat := bif Nat.blt t 52 then G.b0 + ((tg t).1 + (tg t).2.1 * i.toNat) else bif Nat.beq t 70 then G.xa else G.sa (t - 60)
def cv (G : Gw) (v : AV) : Value := match v with
  | .inl z => .int (i32 z)
  | .inr (.inl z) => .long (i64 z)
  | .inr (.inr (t, i)) => .ref (ad G t i)
def slA (S : Sg) (t : Nat) (i : Int) (k j : Nat) : AV := match mm_fty k j with
  | .long => aL (S t i j)
  | .int => aI (S t i j)
  | .boolean => aI (S t i j)
  | _ => aR (rfF t i j).1 (rfF t i j).2
def cellV (G : Gw) (S : Sg) (t : Nat) (i : Int) : va_E := match tgS t with
  | .inl k => .inr (k, (List.range (nF k)).map (fun j => cv G (slA S t i k j)))
  | .inr (0, n) => .inl (G.dA 0, n, .inl (fun q => i32 (S t i q)))
  | .inr (1, n) => .inl (G.dA 1, n, .inr (.inl (fun q => i64 (S t i q))))
  | .inr (2, n) => .inl (G.dA 2, n, .inl (fun q => i32 (S t i q)))
  | .inr (d, n) => .inl (G.dA d, n, .inr (.inr (.inr (.inr (fun q => if q < n then some (ad G (rfF t i q).1 (rfF t i q).2) else none)))))
/-- the type of a slot -/
def tyOf (t q : Nat) : FieldType := match tgS t with
  | .inl k => mm_fty k q
  | .inr (0, _) => .int
  | .inr (1, _) => .long
  | .inr (2, _) => .boolean
  | .inr _ => .object ""
def rgT (ty : FieldType) (z : Int) : Prop := match ty with
  | .long => r64 z
  | .int => r32 z
  | .boolean => z = 0 ∨ z = 1
  | _ => True
def Rep (G : Gw) (S : Sg) (M : Mm) : Prop := (∀ t i : Nat, i < tgC t → M (ad G t i) = some (cellV G S t i)) ∧ ∀ t i q : Nat, i < tgC t → rgT (tyOf t q) (S t i q)
/-! no two things lie at one place -/
def tgI (o : Nat) : Nat × Nat := bif Nat.blt o 14 then ([0, 15, 16, 17, 5, 6, 7, 8, 9, 10, 11, 12, 13, 14].getD o 0, 0) else bif Nat.blt o 74 then (1, o - 14) else bif Nat.blt o 114 then (bif Nat.beq (o % 2) 0 then (2, (o - 74) / 2) else (3, (o - 75) / 2)) else bif Nat.blt o 124 then (4, o - 114) else ([20, 22, 23, 24, 25, 26, 27, 28, 29, 31, 32, 33, 34, 35, 36, 38, 39, 40, 41, 42, 46, 47, 48, 49, 50, 51].getD (o - 124) 0, 0)
theorem tgI_all : ∀ t, t < 52 → ∀ i, i < tgC t → tgI ((tg t).1 + (tg t).2.1 * i) = (t, i) := by decide +kernel
theorem tgC_out {t : Nat} (h : ¬ t < 52) : tgC t = 0 := by
  have : tgL.getD t (0, 0, 0, .inl 9) = (0, 0, 0, .inl 9) := by
    rw [List.getD_eq_getElem?_getD, List.getElem?_eq_none (show tgL.length ≤ t from by have : tgL.length = 52 := rfl; omega)]
    rfl
  unfold tgC tg
  rw [this]
theorem tgC_in {t i : Nat} (h : i < tgC t) : t < 52 := by
  apply Classical.byContradiction
  intro g
  rw [tgC_out g] at h
  omega
theorem ad_in {G : Gw} {t : Nat} {i : Int} (h : t < 52) : ad G t i = G.b0 + ((tg t).1 + (tg t).2.1 * i.toNat) := by
  unfold ad
  have : Nat.blt t 52 = true := by simpa using h
  rw [this]
  rfl
theorem ad_inj {G : Gw} {t i t' i' : Nat} (h : i < tgC t) (h' : i' < tgC t') (e : ad G t i = ad G t' i') : t = t' ∧ i = i' := by
  have a := tgC_in h
  have a' := tgC_in h'
  rw [ad_in a, ad_in a'] at e
  have e2 : (tg t).1 + (tg t).2.1 * i = (tg t').1 + (tg t').2.1 * i' := by
    simp only [Int.toNat_natCast] at e
    omega
  have b := tgI_all t a i h
  have b' := tgI_all t' a' i' h'
  rw [e2, b'] at b
  cases b
  exact ⟨rfl, rfl⟩
section SU
variable (S : Sg) {t t' : Nat} {i j i' j' v : Int}
theorem su_same : su S t i j v t i j = v := by simp [su]
theorem su_t (h : t' ≠ t) : su S t i j v t' i' j' = S t' i' j' := by simp [su, h]
theorem su_i (h : i' ≠ i) : su S t i j v t' i' j' = S t' i' j' := by simp [su, h]
theorem su_j (h : j' ≠ j) : su S t i j v t' i' j' = S t' i' j' := by simp [su, h]
theorem su_tt (h : t' ≠ t) : su S t i j v t' = S t' := by funext a b; simp [su, h]
theorem su_ti (h : i' ≠ i) : su S t i j v t' i' = S t' i' := by funext b; simp [su, h]
end SU
theorem slA_su {S : Sg} {t : Nat} {i v : Int} {k j q : Nat} (h : q ≠ j) : slA (su S t i j v) t i k q = slA S t i k q := by
  unfold slA
  rw [su_j S (show (q : Int) ≠ (j : Int) from by omega)]
theorem cellV_ne {G : Gw} {S : Sg} {t t' : Nat} {i j v i' : Int} (h : ¬ (t' = t ∧ i' = i)) : cellV G (su S t i j v) t' i' = cellV G S t' i' := by
  have e : su S t i j v t' i' = S t' i' := by
    funext b
    unfold su
    rw [if_neg (fun g => h ⟨g.1, g.2.2⟩)]
  unfold cellV slA
  rw [e]
/-- one slot is written -/
theorem Rep.put {G : Gw} {S : Sg} {M : Mm} (h : Rep G S M) {t i : Nat} {j : Nat} {v : Int} (hi : i < tgC t) (hv : rgT (tyOf t j) v) {e : va_E} (he : e = cellV G (su S t i j v) t i) : Rep G (su S t i j v) (mUp M (ad G t i) e) := by
  refine ⟨fun t' i' h' => ?_, fun t' i' q h' => ?_⟩
  · by_cases g : t' = t ∧ i' = i
    · obtain ⟨rfl, rfl⟩ := g
      rw [mUp_self, he]
    · rw [mUp_ne _ _ (fun e' => g (ad_inj h' hi e')), h.1 t' i' h', cellV_ne (fun g' => g ⟨g'.1, by have := g'.2; omega⟩)]
  · by_cases g : t' = t ∧ (q : Int) = j ∧ (i' : Int) = i
    · obtain ⟨rfl, g3, g2⟩ := g
      have : q = j := by omega
      subst this
      have : i' = i := by omega
      subst this
      rw [su_same]
      exact hv
    · unfold su
      rw [if_neg g]
      exact h.2 t' i' q h'
/-! LOCALS -/
def mapL (G : Gw) (ls : ALo) : Lo := ls.map (Option.map (cv G))
def aCat (v : AV) : Nat := match v with
  | .inr (.inl _) => 2
  | _ => 1
def aClr (o : Option AV) : Option AV := match o with
  | some (.inr (.inl _)) => none
  | some v => some v
  | none => none
def aClrAt (ls : ALo) (i : Nat) : ALo := match i with
  | 0 => ls
  | j + 1 => ls.set j (aClr ((ls[j]?).getD none))
def aSet1 (ls : ALo) (i : Nat) (v : AV) : ALo := (aClrAt ls i).set i (some v)
def aSet2 (ls : ALo) (i : Nat) (v : AV) : ALo := ((aClrAt ls i).set i (some v)).set (i + 1) none
def aArgs : List AV → ALo
  | [] => []
  | .inr (.inl z) :: r => some (.inr (.inl z)) :: none :: aArgs r
  | v :: r => some v :: aArgs r
def aEnt (n : Nat) (vs : List AV) : ALo := aArgs vs ++ List.replicate (n - (aArgs vs).length) none
theorem aClr_map {G : Gw} (o : Option AV) : Option.map (cv G) (aClr o) = loClr (Option.map (cv G) o) := by
  rcases o with _ | ⟨z | z | ⟨t, i⟩⟩ <;> rfl
theorem mapL_clrAt {G : Gw} (ls : ALo) (i : Nat) : mapL G (aClrAt ls i) = loClrAt (mapL G ls) i := by
  cases i with
  | zero => rfl
  | succ j =>
    show (ls.set j (aClr ((ls[j]?).getD none))).map (Option.map (cv G)) = (ls.map (Option.map (cv G))).set j (loClr (((ls.map (Option.map (cv G)))[j]?).getD none))
    rw [List.map_set, aClr_map, List.getElem?_map]
    cases ls[j]? <;> rfl
theorem mapL_set1 {G : Gw} (ls : ALo) (i : Nat) (v : AV) : mapL G (aSet1 ls i v) = loSet1 (mapL G ls) i (cv G v) := by
  unfold aSet1 loSet1
  rw [← mapL_clrAt]
  exact List.map_set ..
theorem mapL_set2 {G : Gw} (ls : ALo) (i : Nat) (v : AV) : mapL G (aSet2 ls i v) = loSet2 (mapL G ls) i (cv G v) := by
  unfold aSet2 loSet2
  rw [← mapL_clrAt]
  unfold mapL
  rw [List.map_set, List.map_set]
  rfl
theorem mapL_len {G : Gw} (ls : ALo) : (mapL G ls).length = ls.length := by simp [mapL]
theorem mapL_get {G : Gw} (ls : ALo) (i : Nat) : (mapL G ls)[i]? = (ls[i]?).map (Option.map (cv G)) := by simp [mapL]
theorem cv_cat {G : Gw} (v : AV) : (cv G v).category = aCat v := by
  rcases v with z | z | ⟨t, i⟩ <;> rfl
theorem aArgs_map {G : Gw} (vs : List AV) : (aArgs vs).map (Option.map (cv G)) = loArgs (vs.map (cv G)) := by
  induction vs with
  | nil => rfl
  | cons v r ih =>
    rcases v with z | z | ⟨t, i⟩
    · show some (Value.int (i32 z)) :: (aArgs r).map _ = _
      rw [ih]; rfl
    · show some (Value.long (i64 z)) :: none :: (aArgs r).map _ = _
      rw [ih]; rfl
    · show some (Value.ref (ad G t i)) :: (aArgs r).map _ = _
      rw [ih]; rfl
theorem aEnt_map {G : Gw} (n : Nat) (vs : List AV) : mapL G (aEnt n vs) = loEnt n (vs.map (cv G)) := by
  unfold aEnt loEnt mapL
  rw [List.map_append, aArgs_map, List.map_replicate, ← aArgs_map (G := G), List.length_map]
  rfl
