/-! THE MODEL: what the class's store is like -/
def Lk (A S : Sg) : Prop := ∀ t : Nat, t < 5 → S t = A t
def Fr (S S' : Sg) : Prop := ∀ t : Nat, 20 ≤ t → S' t = S t
def cntF (f : Int → Bool) : Nat → Int → Int
  | 0, _ => 0
  | n + 1, p => (if f p = true then 1 else 0) + cntF f n (p + 1)
theorem cntF_b (f : Int → Bool) (n : Nat) (p : Int) : 0 ≤ cntF f n p ∧ cntF f n p ≤ n := by
  induction n generalizing p with
  | zero => exact ⟨Int.le_refl 0, Int.le_refl 0⟩
  | succ n ih =>
    have := ih (p + 1)
    unfold cntF
    split <;> omega
theorem cntF_ext {f g : Int → Bool} (n : Nat) (p : Int) (h : ∀ q, p ≤ q → q < p + n → f q = g q) : cntF f n p = cntF g n p := by
  induction n generalizing p with
  | zero => rfl
  | succ n ih =>
    unfold cntF
    rw [h p (by omega) (by omega), ih _ (fun q h1 h2 => h q (by omega) (by omega))]
theorem cntF_none {f : Int → Bool} (n : Nat) (p : Int) (h : ∀ q, p ≤ q → q < p + n → f q = false) : cntF f n p = 0 := by
  induction n generalizing p with
  | zero => rfl
  | succ n ih =>
    unfold cntF
    rw [h p (by omega) (by omega), ih _ (fun q h1 h2 => h q (by omega) (by omega))]
    rfl
theorem cntF_cut {f : Int → Bool} (n m : Nat) (p : Int) (h : ∀ q, p + n ≤ q → q < p + n + m → f q = false) : cntF f (n + m) p = cntF f n p := by
  induction n generalizing p with
  | zero =>
    rw [Nat.zero_add]
    exact cntF_none m p (fun q h1 h2 => h q (by omega) (by omega))
  | succ n ih =>
    rw [show n + 1 + m = (n + m) + 1 from by omega]
    unfold cntF
    rw [ih _ (fun q h1 h2 => h q (by omega) (by omega))]
/-- one more is in -/
theorem cntF_one {f g : Int → Bool} (n : Nat) (p x : Int) (hx : p ≤ x ∧ x < p + n) (hf : f x = false) (hg : g x = true) (h : ∀ q, q ≠ x → f q = g q) : cntF g n p = cntF f n p + 1 := by
  induction n generalizing p with
  | zero => omega
  | succ n ih =>
    unfold cntF
    by_cases e : p = x
    · subst e
      rw [hf, hg, cntF_ext (f := g) (g := f) n (p + 1) (fun q h1 h2 => (h q (by omega)).symm)]
      simp
      omega
    · rw [ih (p + 1) (by omega), h p e]
      omega
def fresh (A : Sg) (i : Int) : Prop := A 1 i 2 = 0 ∧ A 1 i 3 = 0 ∧ A 1 i 4 = 0 ∧ A 1 i 5 = -1 ∧ A 1 i 6 = -1 ∧ A 1 i 7 = 0 ∧ A 1 i 8 = 0
def CIn (A : Sg) : Prop := (0 ≤ A 0 0 5 ∧ A 0 0 5 ≤ 60) ∧ (0 ≤ A 0 0 6 ∧ A 0 0 6 ≤ 20) ∧ (0 ≤ A 0 0 7 ∧ A 0 0 7 ≤ 10)
def CIp (A : Sg) (i : Int) : Prop := okXY A i ∧ (A 1 i 5 = -1 ∨ ((0 ≤ A 1 i 5 ∧ A 1 i 5 < A 0 0 6) ∧ (0 ≤ A 1 i 6 ∧ A 1 i 6 < 20) ∧ A 3 (A 1 i 5) (A 1 i 6) = i)) ∧ (A 0 0 5 ≤ i → fresh A i) ∧ (A 1 i 5 = -1 ∨ A 2 (A 1 i 5) 0 = -1 → near A i)
def CIc (A : Sg) (c : Int) : Prop := okCh A c ∧ (A 2 c 0 = -1 ∨ ((0 ≤ A 2 c 0 ∧ A 2 c 0 < A 0 0 6) ∧ A 2 (A 2 c 0) 0 = -1)) ∧ (A 0 0 6 ≤ c → A 2 c 0 = -1 ∧ A 2 c 1 = 0 ∧ A 2 c 2 = 0 ∧ A 2 c 3 = 0 ∧ A 2 c 4 = 0) ∧ A 2 c 5 = cntF (fun p => decide (A 1 p 5 = c)) 60 0 ∧ A 2 c 5 = cntF (fun r => decide (¬ A 3 c r = -1)) 20 0
def CIm (A : Sg) (c r : Int) : Prop := (A 3 c r = -1 ∨ ((0 ≤ A 3 c r ∧ A 3 c r < A 0 0 5) ∧ A 1 (A 3 c r) 5 = c ∧ A 1 (A 3 c r) 6 = r)) ∧ (¬ A 2 c 0 = -1 → ¬ A 3 c r = -1 → ¬ A 3 (A 2 c 0) r = -1)
def CIt (A : Sg) : Prop := ∀ p, 0 ≤ p → p < 60 → bt (A 0 0 8) p = true → p < A 0 0 5
def labC (A : Sg) : Int := cntF (fun p => decide (A 1 p 8 = 1)) 60 0
def CIl (A : Sg) : Prop := (∀ i, 0 ≤ i → i < 60 → A 1 i 8 = 1 → (1 ≤ A 1 i 9 ∧ A 1 i 9 ≤ 1000) ∧ (1 ≤ A 1 i 10 ∧ A 1 i 10 ≤ 1000) ∧ (0 ≤ A 1 i 11 ∧ A 1 i 11 < 8)) ∧ labC A ≤ 5
def CI (A : Sg) : Prop := CIn A ∧ (∀ i, 0 ≤ i → i < 60 → CIp A i) ∧ (∀ c, 0 ≤ c → c < 20 → CIc A c) ∧ (∀ c r, 0 ≤ c → c < 20 → 0 ≤ r → r < 20 → CIm A c r) ∧ CIt A ∧ CIl A
section CIS
variable {A : Sg}
theorem su_eq {S : Sg} {t : Nat} {i j v i' : Int} : su S t i j v t i' j = if i' = i then v else S t i' j := by
  unfold su
  by_cases e : i' = i <;> simp [e]
theorem fMv_2 {p x y t i : Int} : fMv A p x y t 1 i 2 = if i = p then x else A 1 i 2 := su_eq
theorem fMv_3 {p x y t i : Int} : fMv A p x y t 1 i 3 = if i = p then y else A 1 i 3 := su_eq
theorem fMv_4 {p x y t i : Int} : fMv A p x y t 1 i 4 = if i = p then t else A 1 i 4 := su_eq
theorem CI.mv (h : CI A) {p x y t : Int} (hp : 0 ≤ p ∧ p < A 0 0 5) (ht : 0 ≤ t ∧ t < 4) (hx : -4000000 ≤ x ∧ x ≤ 4000000) (hy : -4000000 ≤ y ∧ y ≤ 4000000) (hn : A 1 p 5 = -1 ∨ A 2 (A 1 p 5) 0 = -1 → (-1000000 ≤ x ∧ x ≤ 1000000) ∧ (-1000000 ≤ y ∧ y ≤ 1000000)) : CI (fMv A p x y t) := by
  obtain ⟨h1, h2, h3, h4, h5, h6⟩ := h
  refine ⟨h1, fun i i0 i1 => ?_, h3, h4, h5, h6⟩
  obtain ⟨g1, g2, g3, g4⟩ := h2 i i0 i1
  refine ⟨?_, g2, ?_, ?_⟩
  · unfold okXY at g1 ⊢
    rw [fMv_2, fMv_3, fMv_4]
    refine ⟨?_, ?_, ?_, g1.2.2.2⟩ <;> split <;> first | assumption | omega
  · intro (hi : A 0 0 5 ≤ i)
    unfold fresh
    rw [fMv_2, fMv_3, fMv_4, if_neg (by omega), if_neg (by omega), if_neg (by omega)]
    exact g3 hi
  · intro hi
    unfold near at g4 ⊢
    rw [fMv_2, fMv_3]
    by_cases e : i = p
    · subst e
      rw [if_pos rfl, if_pos rfl]
      exact hn hi
    · rw [if_neg e, if_neg e]
      exact g4 hi
theorem fPart_0 {w h i : Int} : fPart A w h 1 i 0 = if i = A 0 0 5 then w else A 1 i 0 := su_eq
theorem fPart_1 {w h i : Int} : fPart A w h 1 i 1 = if i = A 0 0 5 then h else A 1 i 1 := su_eq
theorem CI.part (h : CI A) {w hh : Int} (hp : A 0 0 5 < 60) (hw : 0 ≤ w ∧ w ≤ 1000) (hh' : 0 ≤ hh ∧ hh ≤ 1000) : CI (fPart A w hh) := by
  obtain ⟨h1, h2, h3, h4, h5, h6⟩ := h
  have hn := h1.1
  refine ⟨⟨(show 0 ≤ A 0 0 5 + 1 ∧ A 0 0 5 + 1 ≤ 60 from by omega), h1.2⟩, fun i i0 i1 => ?_, h3, fun c r c0 c1 r0 r1 => ?_, fun p p0 p1 hb => ?_, h6⟩
  · obtain ⟨g1, g2, g3, g4⟩ := h2 i i0 i1
    refine ⟨?_, g2, fun (hi : A 0 0 5 + 1 ≤ i) => g3 (by omega), g4⟩
    unfold okXY at g1 ⊢
    rw [fPart_0, fPart_1]
    refine ⟨g1.1, g1.2.1, g1.2.2.1, ?_, ?_⟩ <;> split <;> first | assumption | omega
  · obtain ⟨g1, g2⟩ := h4 c r c0 c1 r0 r1
    refine ⟨?_, g2⟩
    rcases g1 with g1 | ⟨g1, g3⟩
    · exact Or.inl g1
    · exact Or.inr ⟨(show 0 ≤ A 3 c r ∧ A 3 c r < A 0 0 5 + 1 from by omega), g3⟩
  · have := h5 p p0 p1 hb
    show p < A 0 0 5 + 1
    omega
theorem fJoin_3 {c p r c' r' : Int} : fJoin A c p r 3 c' r' = if r' = r ∧ c' = c then p else A 3 c' r' := by
  show su A 3 c r p 3 c' r' = _
  unfold su
  simp
theorem fJoin_5 {c p r i : Int} : fJoin A c p r 1 i 5 = if i = p then c else A 1 i 5 := su_eq
theorem fJoin_6 {c p r i : Int} : fJoin A c p r 1 i 6 = if i = p then r else A 1 i 6 := su_eq
theorem fJoin_25 {c p r i : Int} : fJoin A c p r 2 i 5 = if i = c then A 2 c 5 + 1 else A 2 i 5 := su_eq
theorem CI.join (h : CI A) {c p r : Int} (hc : 0 ≤ c ∧ c < A 0 0 6) (hp : 0 ≤ p ∧ p < A 0 0 5) (hr : 0 ≤ r ∧ r < 20) (hf : A 1 p 5 = -1) (hm : A 3 c r = -1) (ho : ¬ A 2 c 0 = -1 → ¬ A 3 (A 2 c 0) r = -1) : CI (fJoin A c p r) := by
  obtain ⟨h1, h2, h3, h4, h5, h6⟩ := h
  have hn := h1.1
  have hn2 := h1.2.1
  refine ⟨h1, fun i i0 i1 => ?_, fun c' c0 c1 => ?_, fun c' r' c0 c1 r0 r1 => ?_, h5, h6⟩
  · obtain ⟨g1, g2, g3, g4⟩ := h2 i i0 i1
    refine ⟨g1, ?_, ?_, ?_⟩
    · show fJoin A c p r 1 i 5 = -1 ∨ ((0 ≤ fJoin A c p r 1 i 5 ∧ fJoin A c p r 1 i 5 < A 0 0 6) ∧ (0 ≤ fJoin A c p r 1 i 6 ∧ fJoin A c p r 1 i 6 < 20) ∧ fJoin A c p r 3 (fJoin A c p r 1 i 5) (fJoin A c p r 1 i 6) = i)
      rw [fJoin_5, fJoin_6, fJoin_3]
      by_cases e : i = p
      · subst e
        rw [if_pos rfl, if_pos rfl, if_pos ⟨rfl, rfl⟩]
        exact Or.inr ⟨hc, hr, rfl⟩
      · rw [if_neg e, if_neg e]
        rcases g2 with g2 | ⟨k1, k2, k3⟩
        · exact Or.inl g2
        · refine Or.inr ⟨k1, k2, ?_⟩
          rw [if_neg (fun q => by rw [q.1, q.2] at k3; omega)]
          exact k3
    · intro (hi : A 0 0 5 ≤ i)
      unfold fresh
      rw [fJoin_5, fJoin_6, if_neg (by omega), if_neg (by omega)]
      exact g3 hi
    · intro hi
      replace hi : fJoin A c p r 1 i 5 = -1 ∨ A 2 (fJoin A c p r 1 i 5) 0 = -1 := hi
      rw [fJoin_5] at hi
      by_cases e : i = p
      · subst e
        exact g4 (Or.inl hf)
      · rw [if_neg e] at hi
        exact g4 hi
  · obtain ⟨g1, g2, g3, g4, g5⟩ := h3 c' c0 c1
    refine ⟨g1, g2, g3, ?_, ?_⟩
    rotate_left
    · rw [fJoin_25]
      by_cases e : c' = c
      · subst e
        rw [if_pos rfl, g5]
        refine (cntF_one 20 0 r (by omega) (by rw [hm]; simp) (by rw [fJoin_3, if_pos ⟨rfl, rfl⟩]; simp; omega) (fun q hq => ?_)).symm
        rw [fJoin_3, if_neg (fun k => hq k.1)]
      · rw [if_neg e, g5]
        refine cntF_ext _ _ (fun q q0 q1 => ?_)
        rw [fJoin_3, if_neg (fun k => e k.2)]
    rw [fJoin_25]
    by_cases e : c' = c
    · subst e
      rw [if_pos rfl, g4]
      refine (cntF_one 60 0 p (by omega) (by rw [hf]; simp; omega) (by rw [fJoin_5, if_pos rfl]; simp) (fun q hq => ?_)).symm
      rw [fJoin_5, if_neg hq]
    · rw [if_neg e, g4]
      refine cntF_ext _ _ (fun q q0 q1 => ?_)
      rw [fJoin_5]
      by_cases e2 : q = p
      · subst e2
        rw [if_pos rfl, hf]
        have e3 : ¬ (-1 : Int) = c' := by omega
        have e4 : ¬ c = c' := fun q => e q.symm
        simp [e3, e4]
      · rw [if_neg e2]
  · obtain ⟨g1, g2⟩ := h4 c' r' c0 c1 r0 r1
    unfold CIm
    show (fJoin A c p r 3 c' r' = -1 ∨ ((0 ≤ fJoin A c p r 3 c' r' ∧ fJoin A c p r 3 c' r' < A 0 0 5) ∧ fJoin A c p r 1 (fJoin A c p r 3 c' r') 5 = c' ∧ fJoin A c p r 1 (fJoin A c p r 3 c' r') 6 = r')) ∧ (¬ A 2 c' 0 = -1 → ¬ fJoin A c p r 3 c' r' = -1 → ¬ fJoin A c p r 3 (A 2 c' 0) r' = -1)
    rw [fJoin_5, fJoin_6, fJoin_3, fJoin_3]
    by_cases e : r' = r ∧ c' = c
    · obtain ⟨rfl, rfl⟩ := e
      rw [if_pos ⟨rfl, rfl⟩, if_pos rfl, if_pos rfl]
      refine ⟨Or.inr ⟨hp, rfl, rfl⟩, fun q1 q2 => ?_⟩
      split
      · omega
      · exact ho q1
    · rw [if_neg e]
      refine ⟨?_, fun q1 q2 => ?_⟩
      · rcases g1 with g1 | ⟨g1, k1, k2⟩
        · exact Or.inl g1
        · have e2 : ¬ A 3 c' r' = p := fun q => by rw [q] at k1; omega
          rw [if_neg e2, if_neg e2]
          exact Or.inr ⟨g1, k1, k2⟩
      · split
        · omega
        · exact g2 q1 q2
theorem CI.told (h : CI A) {p : Int} (hp : 0 ≤ p ∧ p < A 0 0 5) : CI (su A 0 0 8 (lOr (A 0 0 8) (lShl 1 p))) := by
  obtain ⟨h1, h2, h3, h4, h5, h6⟩ := h
  have hn := h1.1
  refine ⟨h1, h2, h3, h4, fun q q0 q1 hb => ?_, h6⟩
  replace hb : bt (lOr (A 0 0 8) (lShl 1 p)) q = true := hb
  rw [bt_or (by omega) (by omega), Bool.or_eq_true] at hb
  show q < A 0 0 5
  rcases hb with hb | hb
  · exact h5 q q0 q1 hb
  · have : q = p := by simpa using hb
    omega
end CIS
