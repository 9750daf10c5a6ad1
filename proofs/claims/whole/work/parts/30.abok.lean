/-! THE ABSTRACT STEP IS THE MINI MACHINE'S -/
theorem cnd_some {A : Type} {c : Bool} {x y : A} (h : (bif c then some x else none) = some y) : c = true ∧ x = y := by
  cases c
  · cases h
  · cases h; exact ⟨rfl, rfl⟩
theorem i32_tI (x : Int32) : i32 x.toInt = x := (i32_of x).symm
theorem i64_tI (x : Int64) : i64 x.toInt = x := (i64_of x).symm
theorem blt_lt {a b : Nat} (h : Nat.blt a b = true) : a < b := by simpa using h
theorem aPu_ok {G : Gw} {ins : Instr} {k : Int} {pc : Nat} {ls : ALo} {st : List AV} {P : Option Prop} {pc' : Nat} {ls' : ALo} {st' : List AV} (h : aPu ins k pc ls st = some (P, pc', ls', st')) (hP : pOf P) : pure1 ins k pc (mapL G ls) (st.map (cv G)) = some (pc', mapL G ls', st'.map (cv G)) := by
  unfold aPu at h
  split at h
  case h_6 | h_7 | h_8 | h_9 | h_10 | h_11 =>
    split at h
    · rename_i heq
      cases h
      simp only [pure1, mapL_get, heq]
      rfl
    · cases h
  case h_12 | h_13 | h_16 | h_17 =>
    split at h
    · obtain ⟨h1, h2⟩ := cnd_some h
      cases h2
      have h3 := blt_lt h1
      rw [← mapL_len (G := G)] at h3
      simp only [pure1, List.map_cons, cv, if_pos h3, mapL_set1]
    · cases h
  case h_14 | h_15 =>
    split at h
    · obtain ⟨h1, h2⟩ := cnd_some h
      cases h2
      have h3 := blt_lt h1
      rw [← mapL_len (G := G)] at h3
      simp only [pure1, List.map_cons, cv, if_pos h3, mapL_set2]
    · cases h
  case h_18 =>
    split at h
    · rename_i heq
      cases h
      simp only [pure1, mapL_get, heq, Option.map_some, cv, mapL_set1, i32_add]
    · cases h
  all_goals first
    | (cases h; rfl)
    | (split at h
       · cases h
         simp only [pure1, List.map_cons, cv, i32_add, i32_sub, i32_mul, i64_add, i64_sub, i64_mul, i64_neg, aAnd, aOr, aXor, aShl, aShr, lAnd, lOr, lShl, lShr, i32_tI, i64_tI]
       · cases h)
    | (split at h
       · cases h
         have h1 := i32_l hP
         simp only [pure1, List.map_cons, cv, h1]
       · cases h)
    | (split at h
       · cases h
         rfl
       · cases h
         rfl
       · cases h)
    | (split at h
       · rename_i h1
         cases h
         simp only [pure1, if_pos h1]
       · cases h)
    | cases h
theorem ckI_of {t : Nat} {i : Int} (h : pOf (ckI t i)) : 0 ≤ i ∧ i < (tgC t : Int) := by
  unfold ckI at h
  cases hb : Nat.beq (tgC t) 1
  · rw [hb] at h
    exact h
  · rw [hb] at h
    have e : tgC t = 1 := by simpa using hb
    have h' : i = 0 := h
    subst h'
    rw [e]
    exact ⟨by decide, by decide⟩
theorem isO_of {t x z : Nat} (h : isO t x z = true) : tgS t = .inl x ∧ z < nF x := by
  unfold isO at h
  split at h
  · rename_i k e
    rw [Bool.and_eq_true] at h
    have e1 : k = x := by simpa using h.1
    subst e1
    exact ⟨e, blt_lt h.2⟩
  · cases h
theorem isA_of {t x n : Nat} (h : isA t x = some n) : tgS t = .inr (x, n) := by
  unfold isA at h
  split at h
  · rename_i d m e
    obtain ⟨h1, h2⟩ := cnd_some h
    have e1 : d = x := by simpa using h1
    subst e1
    subst h2
    exact e
  · cases h
section CL
variable {G : Gw} {S : Sg} {M : Mm} {t : Nat} {i : Int}
theorem Rep.cell (h : Rep G S M) (hi : 0 ≤ i ∧ i < (tgC t : Int)) : M (ad G t i) = some (cellV G S t i) := by
  have := h.1 t i.toNat (by omega)
  rw [show ((i.toNat : Nat) : Int) = i from by omega] at this
  exact this
theorem Rep.up (h : Rep G S M) (hi : 0 ≤ i ∧ i < (tgC t : Int)) {j : Int} {v : Int} (hj : 0 ≤ j) (hv : rgT (tyOf t j.toNat) v) {e : va_E} (he : e = cellV G (su S t i j v) t i) : Rep G (su S t i j v) (mUp M (ad G t i) e) := by
  have e1 : ((i.toNat : Nat) : Int) = i := by omega
  have e2 : ((j.toNat : Nat) : Int) = j := by omega
  have := h.put (t := t) (i := i.toNat) (j := j.toNat) (v := v) (by omega) hv (e := e) (by rw [e1, e2]; exact he)
  rw [e1, e2] at this
  exact this
theorem cell_ob {x : Nat} (h : tgS t = .inl x) : cellV G S t i = .inr (x, (List.range (nF x)).map (fun j => cv G (slA S t i x j))) := by
  unfold cellV; rw [h]
theorem cell_i {n : Nat} (h : tgS t = .inr (0, n)) : cellV G S t i = .inl (G.dA 0, n, .inl (fun q => i32 (S t i q))) := by
  unfold cellV; rw [h]; rfl
theorem cell_l {n : Nat} (h : tgS t = .inr (1, n)) : cellV G S t i = .inl (G.dA 1, n, .inr (.inl (fun q => i64 (S t i q)))) := by
  unfold cellV; rw [h]; rfl
theorem cell_z {n : Nat} (h : tgS t = .inr (2, n)) : cellV G S t i = .inl (G.dA 2, n, .inl (fun q => i32 (S t i q))) := by
  unfold cellV; rw [h]; rfl
theorem cell_r {d n : Nat} (hd : 2 < d) (h : tgS t = .inr (d, n)) : cellV G S t i = .inl (G.dA d, n, .inr (.inr (.inr (.inr (fun q => if q < n then some (ad G (rfF t i q).1 (rfF t i q).2) else none))))) := by
  unfold cellV; rw [h]
  match d, hd with
  | d + 3, _ => rfl
theorem ob_set {x z : Nat} {q : Int} {v : Value} (hz : z < nF x) (hv : v = cv G (slA (su S t i z q) t i x z)) : ((List.range (nF x)).map (fun j => cv G (slA S t i x j))).set z v = (List.range (nF x)).map (fun j => cv G (slA (su S t i z q) t i x j)) := by
  apply List.ext_getElem?
  intro n
  rw [List.getElem?_set]
  by_cases e : z = n
  · subst e
    simp [hz, hv]
  · rw [if_neg e, List.getElem?_map, List.getElem?_map]
    cases hn : (List.range (nF x))[n]? with
    | none => rfl
    | some n' =>
      have e' : n' = n := by
        have := List.getElem?_eq_some_iff.mp hn
        obtain ⟨h1, h2⟩ := this
        simpa using h2.symm
      subst e'
      show some (cv G (slA S t i x n')) = some (cv G (slA (su S t i z q) t i x n'))
      rw [slA_su (fun g => e g.symm)]
end CL
theorem in_of {q : Int} {n : Nat} (hn : n < 2147483648) (h : 0 ≤ q ∧ q < (n : Int)) : vp_in (i32 q) n := i32_in ⟨by omega, by omega⟩ h.1 h.2
theorem cl_of {q : Int} {n : Nat} (hn : n < 2147483648) (h : 0 ≤ q ∧ q < (n : Int)) : (i32 q).toNatClampNeg = q.toNat := i32_cl ⟨by omega, by omega⟩ h.1
theorem tgN_lt : ∀ t, t < 52 → ∀ d n, tgS t = .inr (d, n) → n < 2147483648 := by
  intro t ht d n h
  have : ∀ t, t < 52 → (match tgS t with | .inr (_, n) => Nat.blt n 2147483648 | _ => true) = true := by decide +kernel
  have := this t ht
  rw [h] at this
  exact blt_lt this
theorem ck_lt {t : Nat} {i : Int} (h : 0 ≤ i ∧ i < (tgC t : Int)) : t < 52 := tgC_in (i := i.toNat) (by omega)
theorem i32_rem {a b : Int} (ha : 0 ≤ a ∧ a < 2147483648) (hb : 0 < b ∧ b < 2147483648) : i32 a - i32 a / i32 b * i32 b = i32 (a % b) := by
  have h1 : (i32 a / i32 b) = i32 (a / b) := by
    rw [← Int32.toInt_inj, Int32.toInt_div, i32_t ⟨by omega, by omega⟩, i32_t ⟨by omega, by omega⟩]
    have h0 : 0 ≤ a / b := Int.ediv_nonneg ha.1 (by omega)
    have h2 : a / b ≤ a := Int.ediv_le_self _ ha.1
    rw [Int.tdiv_eq_ediv_of_nonneg ha.1, i32_t ⟨by omega, by omega⟩]
    exact Int.bmod_eq_of_le (by simp; omega) (by simp; omega)
  rw [h1, i32_mul, i32_sub]
  congr 1
  have := Int.emod_add_mul_ediv a b
  have e : a / b * b = b * (a / b) := Int.mul_comm _ _
  omega
theorem i32_div {a b : Int} (ha : 0 ≤ a ∧ a < 2147483648) (hb : 0 < b ∧ b < 2147483648) : i32 a / i32 b = i32 (a / b) := by
  rw [← Int32.toInt_inj, Int32.toInt_div, i32_t ⟨by omega, by omega⟩, i32_t ⟨by omega, by omega⟩]
  have h0 : 0 ≤ a / b := Int.ediv_nonneg ha.1 (by omega)
  have h2 : a / b ≤ a := Int.ediv_le_self _ ha.1
  rw [Int.tdiv_eq_ediv_of_nonneg ha.1, i32_t ⟨by omega, by omega⟩]
  exact Int.bmod_eq_of_le (by simp; omega) (by simp; omega)
theorem i32_nz {b : Int} (hb : 0 < b ∧ b < 2147483648) : ¬ i32 b = 0 := by
  intro h
  have := (i32_eq (a := b) (b := 0) ⟨by omega, by omega⟩ ⟨by decide, by decide⟩).mp h
  omega
theorem nar_z {q : Int} (h : q = 0 ∨ q = 1) : narrow .boolean (.int (i32 q)) = .int (i32 q) ∧ fits .boolean (.int (i32 q)) = true ∧ vp_nar .boolean (i32 q) = i32 q := by
  rcases h with rfl | rfl <;> exact ⟨by decide, by decide, by decide⟩
