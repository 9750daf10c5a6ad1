/-! THE SEARCH FOR SPOTS: ways to choose, the least of the cheapest -/
def vl (d : Int → Int) : Nat → Int
  | 0 => 0
  | m + 1 => 8 * vl d m + d m
def p8 : Nat → Int
  | 0 => 1
  | m + 1 => 8 * p8 m
def Dg (d : Int → Int) (n : Int) : Prop := ∀ l : Int, 0 ≤ l → l < n → 0 ≤ d l ∧ d l < 8
theorem vl_lt {d : Int → Int} (m : Nat) (h : Dg d m) : 0 ≤ vl d m ∧ vl d m < p8 m := by
  induction m with
  | zero => exact ⟨Int.le_refl 0, (show (0 : Int) < 1 by decide)⟩
  | succ m ih =>
    have h1 := ih (fun l a b => h l a (by omega))
    have h2 := h m (by omega) (by omega)
    show 0 ≤ 8 * vl d m + d m ∧ 8 * vl d m + d m < 8 * p8 m
    omega
theorem vl_ext {d e : Int → Int} (m : Nat) (h : ∀ l : Int, 0 ≤ l → l < m → d l = e l) : vl d m = vl e m := by
  induction m with
  | zero => rfl
  | succ m ih =>
    show 8 * vl d m + d m = 8 * vl e m + e m
    rw [ih (fun l a b => h l a (by omega)), h m (by omega) (by omega)]
theorem vl_inj {d e : Int → Int} (m : Nat) (hd : Dg d m) (he : Dg e m) (h : vl d m = vl e m) : ∀ l : Int, 0 ≤ l → l < m → d l = e l := by
  induction m with
  | zero => intro l a b; omega
  | succ m ih =>
    have h1 := hd m (by omega) (by omega)
    have h2 := he m (by omega) (by omega)
    replace h : 8 * vl d m + d m = 8 * vl e m + e m := h
    intro l a b
    by_cases q : l = m
    · subst q; omega
    · exact ih (fun l a b => hd l a (by omega)) (fun l a b => he l a (by omega)) (by omega) l a (by omega)
theorem vl_mono {d e : Int → Int} (m j : Nat) (hd : Dg d ((m + j : Nat) : Int)) (he : Dg e ((m + j : Nat) : Int)) (h : vl d m < vl e m) : vl d (m + j) < vl e (m + j) := by
  induction j with
  | zero => exact h
  | succ j ih =>
    have h1 := hd ((m + j : Nat) : Int) (by omega) (by omega)
    have h2 := he ((m + j : Nat) : Int) (by omega) (by omega)
    have h3 := ih (fun l a b => hd l a (by omega)) (fun l a b => he l a (by omega))
    show 8 * vl d (m + j) + d ((m + j : Nat) : Int) < 8 * vl e (m + j) + e ((m + j : Nat) : Int)
    omega
/-- what a way costs, from a label on -/
def cs (c : Int → Int → Int) (d : Int → Int) : Nat → Int → Int
  | 0, _ => 0
  | m + 1, l => c l (d l) + cs c d m (l + 1)
theorem cs_ext {c : Int → Int → Int} {d e : Int → Int} (m : Nat) (l : Int) (h : ∀ i : Int, l ≤ i → i < l + m → d i = e i) : cs c d m l = cs c e m l := by
  induction m generalizing l with
  | zero => rfl
  | succ m ih =>
    show c l (d l) + cs c d m (l + 1) = c l (e l) + cs c e m (l + 1)
    rw [h l (by omega) (by omega), ih (l + 1) (fun i a b => h i (by omega) (by omega))]
theorem cs_b {c : Int → Int → Int} {d : Int → Int} (hc : ∀ l s, 0 ≤ c l s ∧ c l s ≤ 1) (m : Nat) (l : Int) : 0 ≤ cs c d m l ∧ cs c d m l ≤ m := by
  induction m generalizing l with
  | zero => exact ⟨Int.le_refl 0, Int.le_refl 0⟩
  | succ m ih =>
    have h1 := ih (l + 1)
    have h2 := hc l (d l)
    show 0 ≤ c l (d l) + cs c d m (l + 1) ∧ c l (d l) + cs c d m (l + 1) ≤ ((m + 1 : Nat) : Int)
    omega
/-- one label costs nothing: the whole costs less than there are labels -/
theorem cs_free {c : Int → Int → Int} {d : Int → Int} (hc : ∀ l s, 0 ≤ c l s ∧ c l s ≤ 1) {j : Int} (hj : ∀ s, c j s = 0) (m : Nat) (l : Int) (h : l ≤ j ∧ j < l + m) : cs c d m l < m := by
  induction m generalizing l with
  | zero => omega
  | succ m ih =>
    show c l (d l) + cs c d m (l + 1) < ((m + 1 : Nat) : Int)
    by_cases e : l = j
    · subst e
      have := (cs_b (d := d) hc m (l + 1)).2
      rw [hj]
      omega
    · have h1 := ih (l + 1) (by omega)
      have h2 := hc l (d l)
      omega
/-- a way that may be -/
def Vd (fr : Int → Int → Prop) (mt : Int → Int → Int → Int → Prop) (n : Int) (d : Int → Int) : Prop := (∀ l, 0 ≤ l → l < n → (0 ≤ d l ∧ d l < 8) ∧ fr l (d l)) ∧ ∀ l m, 0 ≤ l → l < m → m < n → ¬ mt l (d l) m (d m)
theorem Vd.dg {fr : Int → Int → Prop} {mt : Int → Int → Int → Int → Prop} {n : Int} {d : Int → Int} (h : Vd fr mt n d) : Dg d n := fun l a b => (h.1 l a b).1
theorem Vd.ext {fr : Int → Int → Prop} {mt : Int → Int → Int → Int → Prop} {n : Int} {d e : Int → Int} (h : Vd fr mt n d) (q : ∀ l, 0 ≤ l → l < n → e l = d l) : Vd fr mt n e := by
  refine ⟨fun l a b => ?_, fun l m a b g => ?_⟩
  · rw [q l a b]; exact h.1 l a b
  · rw [q l a (by omega), q m (by omega) g]; exact h.2 l m a b g
/-- the least of the cheapest -/
def Opt (fr : Int → Int → Prop) (mt : Int → Int → Int → Int → Prop) (c : Int → Int → Int) (n : Nat) (D : Int → Int) : Prop := Vd fr mt n D ∧ ∀ d, Vd fr mt n d → cs c D n 0 < cs c d n 0 ∨ (cs c D n 0 = cs c d n 0 ∧ vl D n ≤ vl d n)
theorem Opt.uniq {fr : Int → Int → Prop} {mt : Int → Int → Int → Int → Prop} {c : Int → Int → Int} {n : Nat} {D E : Int → Int} (h : Opt fr mt c n D) (g : Opt fr mt c n E) : ∀ l : Int, 0 ≤ l → l < n → D l = E l := by
  refine vl_inj n h.1.dg g.1.dg ?_
  have h1 := h.2 E g.1
  have h2 := g.2 D h.1
  omega
theorem Opt.ext {fr : Int → Int → Prop} {mt : Int → Int → Int → Int → Prop} {c : Int → Int → Int} {n : Nat} {D E : Int → Int} (h : Opt fr mt c n D) (q : ∀ l : Int, 0 ≤ l → l < n → E l = D l) : Opt fr mt c n E := by
  refine ⟨h.1.ext q, fun d hd => ?_⟩
  rw [cs_ext n 0 (fun i a b => q i a (by omega)), vl_ext n q]
  exact h.2 d hd
/-! which parts have labels -/
theorem cntF_snoc (f : Int → Bool) (n : Nat) (p : Int) : cntF f (n + 1) p = cntF f n p + (if f (p + n) = true then 1 else 0) := by
  induction n generalizing p with
  | zero =>
    show (if f p = true then (1 : Int) else 0) + 0 = 0 + (if f (p + 0) = true then (1 : Int) else 0)
    rw [Int.add_zero p]
    omega
  | succ n ih =>
    have := ih (p + 1)
    rw [show cntF f (n + 1 + 1) p = (if f p = true then 1 else 0) + cntF f (n + 1) (p + 1) from rfl, this, show cntF f (n + 1) p = (if f p = true then 1 else 0) + cntF f n (p + 1) from rfl, show p + 1 + (n : Int) = p + ((n + 1 : Nat) : Int) from by omega]
    omega
/-- how many labels there are before a part -/
def lbc (A : Sg) (p : Int) : Int := cntF (fun q => decide (A 1 q 8 = 1)) p.toNat 0
theorem lbc_z (A : Sg) : lbc A 0 = 0 := rfl
theorem lbc_s {A : Sg} {p : Int} (hp : 0 ≤ p) : lbc A (p + 1) = lbc A p + (if A 1 p 8 = 1 then 1 else 0) := by
  unfold lbc
  rw [show (p + 1).toNat = p.toNat + 1 from by omega, cntF_snoc, show (0 : Int) + (p.toNat : Int) = p from by omega]
  by_cases e : A 1 p 8 = 1 <;> simp [e]
theorem lbc_s1 {A : Sg} {p : Int} (hp : 0 ≤ p) (h : A 1 p 8 = 1) : lbc A (p + 1) = lbc A p + 1 := by rw [lbc_s hp, if_pos h]
theorem lbc_s0 {A : Sg} {p : Int} (hp : 0 ≤ p) (h : ¬ A 1 p 8 = 1) : lbc A (p + 1) = lbc A p := by rw [lbc_s hp, if_neg h]; omega
theorem lbc_le {A : Sg} {p : Int} (hp : 0 ≤ p) (n : Nat) : lbc A p ≤ lbc A (p + n) := by
  induction n with
  | zero => rw [show p + ((0 : Nat) : Int) = p from by omega]; exact Int.le_refl _
  | succ n ih =>
    rw [show p + ((n + 1 : Nat) : Int) = p + n + 1 from by omega, lbc_s (by omega)]
    split <;> omega
theorem lbc_mono {A : Sg} {p q : Int} (hp : 0 ≤ p) (h : p ≤ q) : lbc A p ≤ lbc A q := by
  have := lbc_le (A := A) hp (q - p).toNat
  rw [show p + (((q - p).toNat : Nat) : Int) = q from by omega] at this
  exact this
theorem lbc_lt {A : Sg} {p q : Int} (hp : 0 ≤ p) (h : p < q) (hl : A 1 p 8 = 1) : lbc A p < lbc A q := by
  have h1 := lbc_mono (A := A) (p := p + 1) (q := q) (by omega) (by omega)
  rw [lbc_s1 hp hl] at h1
  omega
theorem lbc_nn {A : Sg} {p : Int} : 0 ≤ lbc A p := (cntF_b _ _ _).1
theorem lbc_60 (A : Sg) : lbc A 60 = labC A := rfl
/-- whose a label is -/
def owF (A : Sg) : Nat → Int → Int
  | 0, _ => 0
  | m + 1, l => if A 1 m 8 = 1 ∧ lbc A m = l then m else owF A m l
def ow (A : Sg) (l : Int) : Int := owF A 60 l
theorem owF_of {A : Sg} {p : Int} (hp : 0 ≤ p) (hl : A 1 p 8 = 1) (m : Nat) (hm : p < m) : owF A m (lbc A p) = p := by
  induction m with
  | zero => omega
  | succ m ih =>
    unfold owF
    by_cases e : p = m
    · subst e
      rw [if_pos ⟨hl, rfl⟩]
    · have := lbc_lt hp (show p < (m : Int) from by omega) hl
      rw [if_neg (fun q => by omega)]
      exact ih (by omega)
theorem ow_of {A : Sg} {p : Int} (hp : 0 ≤ p ∧ p < 60) (hl : A 1 p 8 = 1) : ow A (lbc A p) = p := owF_of hp.1 hl 60 (by omega)
theorem lb_ex {A : Sg} (m : Nat) {l : Int} (h : 0 ≤ l) (hl : l < lbc A m) : ∃ p, 0 ≤ p ∧ p < (m : Int) ∧ A 1 p 8 = 1 ∧ lbc A p = l := by
  induction m with
  | zero =>
    have : lbc A ((0 : Nat) : Int) = 0 := rfl
    omega
  | succ m ih =>
    rw [show ((m + 1 : Nat) : Int) = (m : Int) + 1 from by omega, lbc_s (by omega)] at hl
    by_cases e : l < lbc A m
    · obtain ⟨p, a, b, c, d⟩ := ih e
      exact ⟨p, a, by omega, c, d⟩
    · by_cases g : A 1 (m : Int) 8 = 1
      · rw [if_pos g] at hl
        exact ⟨m, by omega, by omega, g, by omega⟩
      · rw [if_neg g] at hl
        omega
theorem ow_is {A : Sg} {l n : Int} (hn : 0 ≤ n ∧ n ≤ 60) (h : 0 ≤ l) (hl : l < lbc A n) : (0 ≤ ow A l ∧ ow A l < n) ∧ A 1 (ow A l) 8 = 1 ∧ lbc A (ow A l) = l := by
  obtain ⟨p, a, b, c, d⟩ := lb_ex n.toNat h (by rw [show ((n.toNat : Nat) : Int) = n from by omega]; exact hl)
  subst d
  rw [ow_of (by omega) c]
  exact ⟨by omega, c, rfl⟩
/-! sets of spots -/
def b8 (m s : Int) : Bool := (i32 m).toBitVec.getLsbD s.toNat
theorem sh_amt32 : ∀ p : Nat, p < 32 → ((Int32.ofNat p) &&& 31).toBitVec.smod 32 = BitVec.ofNat 32 p := by decide +kernel
theorem bv_one32 {x : BitVec 32} : x &&& 1#32 = 1#32 ↔ x.getLsbD 0 = true := by
  constructor
  · intro h
    have := congrArg (fun y => y.getLsbD 0) h
    simpa using this
  · intro h
    apply BitVec.eq_of_getLsbD_eq
    intro i hi
    rw [BitVec.getLsbD_and]
    by_cases e : i = 0
    · subst e
      simp [h]
    · have : (1#32).getLsbD i = false := by simp [BitVec.getLsbD_one, e]
      rw [this, Bool.and_false]
theorem i32_p {p : Int} (hp : 0 ≤ p ∧ p < 32) : i32 p = Int32.ofNat p.toNat := by
  have := i32_nI p.toNat
  rw [Int.toNat_of_nonneg hp.1] at this
  exact this
theorem b8_in {m p : Int} (hp : 0 ≤ p ∧ p < 32) : aAnd (aShr m p) 1 = 1 ↔ b8 m p = true := by
  have e0 := i32_p hp
  unfold aAnd aShr b8
  rw [i32_tI]
  have e1 : ((i32 m >>> (i32 p &&& 31)) &&& i32 1).toInt = 1 ↔ ((i32 m >>> (i32 p &&& 31)) &&& i32 1) = i32 1 := by
    rw [← Int32.toInt_inj]
    exact Iff.rfl
  rw [e1, ← Int32.toBitVec_inj, Int32.toBitVec_and, Int32.toBitVec_shiftRight, e0, sh_amt32 _ (by omega)]
  have e2 : (i32 1).toBitVec = 1#32 := rfl
  rw [e2, bv_one32, BitVec.sshiftRight_eq', BitVec.getLsbD_sshiftRight]
  have e3 : (BitVec.ofNat 32 p.toNat).toNat = p.toNat := by
    rw [BitVec.toNat_ofNat]
    exact Nat.mod_eq_of_lt (by omega)
  rw [e3]
  simp
  omega
theorem b8_or {m q : Int} (hq : 0 ≤ q ∧ q < 32) {p : Int} (hp : 0 ≤ p ∧ p < 32) : b8 (aOr m (aShl 1 q)) p = (b8 m p || decide (p = q)) := by
  have e0 := i32_p hq
  unfold aOr aShl b8
  rw [i32_tI, i32_tI, Int32.toBitVec_or, Int32.toBitVec_shiftLeft, e0, sh_amt32 _ (by omega)]
  have e2 : (i32 1).toBitVec = 1#32 := rfl
  have e3 : (BitVec.ofNat 32 q.toNat).toNat = q.toNat := by
    rw [BitVec.toNat_ofNat]
    exact Nat.mod_eq_of_lt (by omega)
  rw [e2, BitVec.getLsbD_or, BitVec.shiftLeft_eq', BitVec.getLsbD_shiftLeft, e3]
  congr 1
  have hp' : p.toNat < 32 := by omega
  by_cases h : p = q
  · subst h
    simp [hp', BitVec.getLsbD_one]
  · have h' : ¬ p.toNat = q.toNat := by omega
    simp only [hp', h, decide_true, decide_false, Bool.true_and, BitVec.getLsbD_one]
    by_cases h2 : p.toNat < q.toNat
    · simp [h2]
    · have h3 : ¬ p.toNat - q.toNat = 0 := by omega
      simp [h3]
theorem b8_and {m q : Int} {p : Int} (hp : 0 ≤ p ∧ p < 32) : b8 (aAnd m (aXor q (-1))) p = (b8 m p && !(b8 q p)) := by
  unfold aAnd aXor b8
  rw [i32_tI, i32_tI, Int32.toBitVec_and, Int32.toBitVec_xor, BitVec.getLsbD_and, BitVec.getLsbD_xor]
  have e2 : (i32 (-1)).toBitVec = BitVec.allOnes 32 := by decide
  have hp' : p.toNat < 32 := by omega
  rw [e2, BitVec.getLsbD_allOnes]
  simp [hp']
theorem b8_zero (p : Int) : b8 0 p = false := by
  unfold b8
  have : (i32 0).toBitVec = 0#32 := rfl
  rw [this, BitVec.getLsbD_zero]
/-- a set of spots, so far -/
def Bs (f : Int → Prop) (m : Int) (s : Int) : Prop := ∀ q, 0 ≤ q → q < 8 → (b8 m q = true ↔ f q ∧ q < s)
theorem Bs.z {f : Int → Prop} : Bs f 0 0 := fun q a b => by
  rw [b8_zero]
  constructor
  · intro h; cases h
  · intro h; omega
theorem Bs.put {f : Int → Prop} {m s : Int} (h : Bs f m s) (hs : 0 ≤ s ∧ s < 8) (hf : f s) : Bs f (aOr m (aShl 1 s)) (s + 1) := fun q a b => by
  rw [b8_or (by omega) (by omega), Bool.or_eq_true, h q a b]
  by_cases e : q = s
  · subst e; simp [hf]; omega
  · simp [e]
    intro _
    omega
theorem Bs.skip {f : Int → Prop} {m s : Int} (h : Bs f m s) (hf : ¬ f s) : Bs f m (s + 1) := fun q a b => by
  rw [h q a b]
  by_cases e : q = s
  · subst e; simp [hf]
  · constructor
    · intro g; exact ⟨g.1, by omega⟩
    · intro g; exact ⟨g.1, by omega⟩
