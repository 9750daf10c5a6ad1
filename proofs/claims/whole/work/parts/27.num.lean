/-! NUMBERS: ints and longs as whole numbers in their range -/
abbrev i32 (z : Int) : Int32 := Int32.ofInt z
abbrev i64 (z : Int) : Int64 := Int64.ofInt z
def r32 (z : Int) : Prop := -2147483648 ≤ z ∧ z < 2147483648
def r64 (z : Int) : Prop := -9223372036854775808 ≤ z ∧ z < 9223372036854775808
theorem i32_t {z : Int} (h : r32 z) : (i32 z).toInt = z := by
  obtain ⟨h1, h2⟩ := h
  rw [Int32.toInt_ofInt]
  exact Int.bmod_eq_of_le (by simp [Int32.size]; omega) (by simp [Int32.size]; omega)
theorem i64_t {z : Int} (h : r64 z) : (i64 z).toInt = z := by
  obtain ⟨h1, h2⟩ := h
  rw [Int64.toInt_ofInt]
  exact Int.bmod_eq_of_le (by simp [Int64.size]; omega) (by simp [Int64.size]; omega)
theorem i32_of (x : Int32) : x = i32 x.toInt := (Int32.ofInt_toInt x).symm
theorem i64_of (x : Int64) : x = i64 x.toInt := (Int64.ofInt_toInt x).symm
theorem r32_of (x : Int32) : r32 x.toInt := ⟨by have := Int32.le_toInt x; simpa using this, by have := Int32.toInt_lt x; simpa using this⟩
theorem r64_of (x : Int64) : r64 x.toInt := ⟨by have := Int64.le_toInt x; simpa using this, by have := Int64.toInt_lt x; simpa using this⟩
theorem i32_lt {a b : Int} (ha : r32 a) (hb : r32 b) : i32 a < i32 b ↔ a < b := by rw [Int32.lt_iff_toInt_lt, i32_t ha, i32_t hb]
theorem i32_le {a b : Int} (ha : r32 a) (hb : r32 b) : i32 a ≤ i32 b ↔ a ≤ b := by rw [Int32.le_iff_toInt_le, i32_t ha, i32_t hb]
theorem i32_eq {a b : Int} (ha : r32 a) (hb : r32 b) : i32 a = i32 b ↔ a = b := by rw [← Int32.toInt_inj, i32_t ha, i32_t hb]
theorem i64_lt {a b : Int} (ha : r64 a) (hb : r64 b) : i64 a < i64 b ↔ a < b := by rw [Int64.lt_iff_toInt_lt, i64_t ha, i64_t hb]
theorem i64_le {a b : Int} (ha : r64 a) (hb : r64 b) : i64 a ≤ i64 b ↔ a ≤ b := by rw [Int64.le_iff_toInt_le, i64_t ha, i64_t hb]
theorem i64_eq {a b : Int} (ha : r64 a) (hb : r64 b) : i64 a = i64 b ↔ a = b := by rw [← Int64.toInt_inj, i64_t ha, i64_t hb]
theorem i32_add (a b : Int) : i32 a + i32 b = i32 (a + b) := (Int32.ofInt_add a b).symm
theorem i32_sub (a b : Int) : i32 a - i32 b = i32 (a - b) := (Int32.ofInt_sub a b).symm
theorem i32_mul (a b : Int) : i32 a * i32 b = i32 (a * b) := (Int32.ofInt_mul a b).symm
theorem i64_add (a b : Int) : i64 a + i64 b = i64 (a + b) := (Int64.ofInt_add a b).symm
theorem i64_sub (a b : Int) : i64 a - i64 b = i64 (a - b) := (Int64.ofInt_sub a b).symm
theorem i64_mul (a b : Int) : i64 a * i64 b = i64 (a * b) := (Int64.ofInt_mul a b).symm
theorem i64_neg (a : Int) : -(i64 a) = i64 (-a) := (Int64.ofInt_neg a).symm
theorem i32_l {z : Int} (h : r32 z) : (i32 z).toInt64 = i64 z := by
  rw [← Int64.toInt_inj, Int32.toInt_toInt64, i32_t h, i64_t ⟨by have := h.1; omega, by have := h.2; omega⟩]
theorem i32_nI (n : Nat) : i32 (n : Int) = nI n := rfl
theorem i32_cl {z : Int} (h : r32 z) (h0 : 0 ≤ z) : (i32 z).toNatClampNeg = z.toNat := by
  rw [Int32.toNatClampNeg, i32_t h]
theorem i32_in {z : Int} {n : Nat} (h : r32 z) (h0 : 0 ≤ z) (hn : z < n) : vp_in (i32 z) n := by
  rw [vp_in_iff, i32_t h]
  exact ⟨h0, hn⟩
/-! what a branch asks -/
theorem cz_cmp {a b : Int} (ha : r64 a) (hb : r64 b) (c : ClassFile.Cond) : cndZ c (lg_cmp (i64 a) (i64 b)) ↔ (match c with | .eq => a = b | .ne => ¬ a = b | .lt => a < b | .ge => b ≤ a | .gt => b < a | .le => a ≤ b) := by
  have h1 := i64_lt hb ha
  have h2 := i64_eq ha hb
  unfold lg_cmp
  simp only [gt_iff_lt]
  by_cases g1 : b < a
  · rw [if_pos (h1.mpr g1)]
    cases c <;> simp [cndZ] <;> omega
  · rw [if_neg (fun q => g1 (h1.mp q))]
    by_cases g2 : a = b
    · rw [if_pos (h2.mpr g2)]
      cases c <;> simp [cndZ] <;> omega
    · rw [if_neg (fun q => g2 (h2.mp q))]
      cases c <;> simp [cndZ] <;> first | omega | decide
theorem cz_i {a : Int} (ha : r32 a) (c : ClassFile.Cond) : cndZ c (i32 a) ↔ (match c with | .eq => a = 0 | .ne => ¬ a = 0 | .lt => a < 0 | .ge => 0 ≤ a | .gt => 0 < a | .le => a ≤ 0) := by
  have h0 : r32 0 := ⟨by decide, by decide⟩
  have e : (0 : Int32) = i32 0 := rfl
  cases c <;> simp only [cndZ, e] <;> first | exact i32_eq ha h0 | exact not_congr (i32_eq ha h0) | exact i32_lt ha h0 | exact i32_le h0 ha | exact i32_lt h0 ha | exact i32_le ha h0
theorem ci_i {a b : Int} (ha : r32 a) (hb : r32 b) (c : ClassFile.Cond) : cndI c (i32 a) (i32 b) ↔ (match c with | .eq => a = b | .ne => ¬ a = b | .lt => a < b | .ge => b ≤ a | .gt => b < a | .le => a ≤ b) := by
  cases c <;> simp only [cndI] <;> first | exact i32_eq ha hb | exact not_congr (i32_eq ha hb) | exact i32_lt ha hb | exact i32_le hb ha | exact i32_lt hb ha | exact i32_le ha hb
