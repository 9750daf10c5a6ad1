/-! SETS OF PARTS AS BITS -/
def bt (m p : Int) : Bool := (i64 m).toBitVec.getLsbD p.toNat
theorem sh_amt : ∀ p : Nat, p < 64 → ((Int32.ofNat p).toInt64 &&& 63).toBitVec.smod 64 = BitVec.ofNat 64 p := by decide +kernel
theorem bv_one {x : BitVec 64} : x &&& 1#64 = 1#64 ↔ x.getLsbD 0 = true := by
  constructor
  · intro h
    have := congrArg (fun y => y.getLsbD 0) h
    simpa using this
  · intro h
    apply BitVec.eq_of_getLsbD_eq
    intro i hi
    rw [BitVec.getLsbD_and]
    by_cases e : i = 0
    · subst e
      simp [h]
    · have : (1#64).getLsbD i = false := by simp [BitVec.getLsbD_one, e]
      rw [this, Bool.and_false]
theorem isIn_iff {m p : Int} (hp : 0 ≤ p ∧ p < 64) : lAnd (lShr m p) 1 = 1 ↔ bt m p = true := by
  have e0 : i32 p = Int32.ofNat p.toNat := by
    have := i32_nI p.toNat
    rw [Int.toNat_of_nonneg hp.1] at this
    exact this
  unfold lAnd lShr bt
  rw [i64_tI]
  have e1 : ((i64 m >>> ((i32 p).toInt64 &&& 63)) &&& i64 1).toInt = 1 ↔ ((i64 m >>> ((i32 p).toInt64 &&& 63)) &&& i64 1) = i64 1 := by
    rw [← Int64.toInt_inj]
    exact Iff.rfl
  rw [e1, ← Int64.toBitVec_inj, Int64.toBitVec_and, Int64.toBitVec_shiftRight, e0, sh_amt _ (by omega)]
  have e2 : (i64 1).toBitVec = 1#64 := rfl
  rw [e2, bv_one, BitVec.sshiftRight_eq', BitVec.getLsbD_sshiftRight]
  have e3 : (BitVec.ofNat 64 p.toNat).toNat = p.toNat := by
    rw [BitVec.toNat_ofNat]
    exact Nat.mod_eq_of_lt (by omega)
  rw [e3]
  simp
  omega
theorem bt_or {m q : Int} (hq : 0 ≤ q ∧ q < 64) {p : Int} (hp : 0 ≤ p ∧ p < 64) : bt (lOr m (lShl 1 q)) p = (bt m p || decide (p = q)) := by
  have e0 : i32 q = Int32.ofNat q.toNat := by
    have := i32_nI q.toNat
    rw [Int.toNat_of_nonneg hq.1] at this
    exact this
  unfold lOr lShl bt
  rw [i64_tI, i64_tI, Int64.toBitVec_or, Int64.toBitVec_shiftLeft, e0, sh_amt _ (by omega)]
  have e2 : (i64 1).toBitVec = 1#64 := rfl
  have e3 : (BitVec.ofNat 64 q.toNat).toNat = q.toNat := by
    rw [BitVec.toNat_ofNat]
    exact Nat.mod_eq_of_lt (by omega)
  rw [e2, BitVec.getLsbD_or, BitVec.shiftLeft_eq', BitVec.getLsbD_shiftLeft, e3]
  congr 1
  have hp' : p.toNat < 64 := by omega
  by_cases h : p = q
  · subst h
    simp [hp', BitVec.getLsbD_one]
  · have h' : ¬ p.toNat = q.toNat := by omega
    simp only [hp', h, decide_true, decide_false, Bool.true_and, BitVec.getLsbD_one]
    by_cases h2 : p.toNat < q.toNat
    · simp [h2]
    · have h3 : ¬ p.toNat - q.toNat = 0 := by omega
      simp [h3]
theorem bt_zero (p : Int) : bt 0 p = false := by
  unfold bt
  have : (i64 0).toBitVec = 0#64 := rfl
  rw [this, BitVec.getLsbD_zero]
/-- the one that comes behind so many others -/
def nthF (f : Int → Bool) : Nat → Int → Int → Int
  | 0, _, _ => -1
  | n + 1, p, c => if f p = true then (if c = 0 then p else nthF f n (p + 1) (c - 1)) else nthF f n (p + 1) c
theorem nthF_hit {f : Int → Bool} {n : Nat} {p c : Int} (h : f p = true) (hc : c = 0) : nthF f (n + 1) p c = p := by
  unfold nthF; rw [if_pos h, if_pos hc]
theorem nthF_next {f : Int → Bool} {n : Nat} {p c : Int} (h : f p = true) (hc : ¬ c = 0) : nthF f (n + 1) p c = nthF f n (p + 1) (c - 1) := by
  conv => lhs; unfold nthF
  rw [if_pos h, if_neg hc]
theorem nthF_skip {f : Int → Bool} {n : Nat} {p c : Int} (h : ¬ f p = true) : nthF f (n + 1) p c = nthF f n (p + 1) c := by
  conv => lhs; unfold nthF
  rw [if_neg h]
theorem nthF_neg {f : Int → Bool} (n : Nat) (p : Int) {c : Int} (h : c < 0) : nthF f n p c = -1 := by
  induction n generalizing p c with
  | zero => rfl
  | succ n ih =>
    unfold nthF
    split
    · rw [if_neg (by omega)]; exact ih _ (by omega)
    · exact ih _ h
theorem nthF_ext {f g : Int → Bool} (n : Nat) (p : Int) {c : Int} (h : ∀ q, p ≤ q → q < p + n → f q = g q) : nthF f n p c = nthF g n p c := by
  induction n generalizing p c with
  | zero => rfl
  | succ n ih =>
    unfold nthF
    rw [h p (by omega) (by omega)]
    split
    · split
      · rfl
      · exact ih _ (fun q h1 h2 => h q (by omega) (by omega))
    · exact ih _ (fun q h1 h2 => h q (by omega) (by omega))
theorem nthF_none {f : Int → Bool} (n : Nat) (p : Int) {c : Int} (h : ∀ q, p ≤ q → q < p + n → f q = false) : nthF f n p c = -1 := by
  induction n generalizing p c with
  | zero => rfl
  | succ n ih =>
    unfold nthF
    rw [h p (by omega) (by omega)]
    simp only [Bool.false_eq_true, if_false]
    exact ih _ (fun q h1 h2 => h q (by omega) (by omega))
/-- what lies behind doesn't count if it isn't in -/
theorem nthF_cut {f : Int → Bool} (n m : Nat) (p : Int) {c : Int} (h : ∀ q, p + n ≤ q → q < p + n + m → f q = false) : nthF f (n + m) p c = nthF f n p c := by
  induction n generalizing p c with
  | zero =>
    rw [Nat.zero_add]
    show _ = -1
    exact nthF_none m p (fun q h1 h2 => h q (by omega) (by omega))
  | succ n ih =>
    rw [show n + 1 + m = (n + m) + 1 from by omega]
    unfold nthF
    split
    · split
      · rfl
      · exact ih _ (fun q h1 h2 => h q (by omega) (by omega))
    · exact ih _ (fun q h1 h2 => h q (by omega) (by omega))
