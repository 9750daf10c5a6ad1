/-! A STEP OF LOCALS AND OPERANDS IS A STEP OF THE MACHINE -/
def lvR (arr : Array Slot) (nL : Nat) (ls : Lo) : Prop := arr.size = nL ∧ ls.length = nL ∧ lv_wf arr ∧ ∀ (i : Nat) (v : Value), ls[i]? = some (some v) → arr[i]? = some (.val v)
def loAsc (ls : Lo) : List (Nat × Value) := (List.range ls.length).filterMap (fun i => ((ls[i]?).getD none).map (fun v => (i, v)))
theorem loAsc_mem {ls : Lo} {i : Nat} {v : Value} : (i, v) ∈ loAsc ls ↔ ls[i]? = some (some v) := by
  unfold loAsc
  rw [List.mem_filterMap]
  constructor
  · rintro ⟨j, -, h⟩
    cases hj : ls[j]? with
    | none => rw [hj] at h; simp at h
    | some o =>
      cases o with
      | none => rw [hj] at h; simp at h
      | some w =>
        rw [hj] at h
        simp at h
        obtain ⟨rfl, rfl⟩ := h
        exact hj
  · intro h
    refine ⟨i, List.mem_range.mpr (List.getElem?_eq_some_iff.mp h).1, ?_⟩
    rw [h]
    rfl
theorem lvR.has {arr : Array Slot} {nL : Nat} {ls : Lo} (h : lvR arr nL ls) : lv_has arr nL (loAsc ls) := ⟨h.1, h.2.2.1, fun q hq => h.2.2.2 q.1 q.2 (loAsc_mem.mp hq)⟩
theorem loClrAt_len (ls : Lo) (i : Nat) : (loClrAt ls i).length = ls.length := by
  cases i <;> simp [loClrAt]
theorem loClr_some {o : Option Value} {v : Value} (h : loClr o = some v) : o = some v ∧ ¬ v.category = 2 := by
  unfold loClr at h
  split at h
  · split at h
    · cases h
    · rename_i hc
      cases h
      exact ⟨rfl, hc⟩
  · cases h
theorem loClrAt_get {ls : Lo} {i j : Nat} {v : Value} (h : (loClrAt ls i)[j]? = some (some v)) : ls[j]? = some (some v) ∧ (j + 1 = i → ¬ v.category = 2) := by
  cases i with
  | zero => exact ⟨h, fun q => by omega⟩
  | succ i =>
    simp only [loClrAt, List.getElem?_set] at h
    split at h
    · rename_i hij
      subst hij
      split at h
      · rename_i hlt
        have hg : ls[i]? = some ls[i] := List.getElem?_eq_getElem hlt
        rw [hg] at h
        simp only [Option.getD_some, Option.some.injEq] at h
        obtain ⟨h1, h2⟩ := loClr_some h
        exact ⟨by rw [hg, h1], fun _ => h2⟩
      · cases h
    · rename_i hij
      exact ⟨h, fun q => absurd (by omega) hij⟩
theorem lvR.st1 {arr' : Array Slot} {nL i : Nat} {ls : Lo} {v : Value} (hlen : ls.length = nL) (h : lv_has arr' nL ((i, v) :: (loAsc ls).filter (fun q => !(q.1 == i) && !(q.1 + 1 == i && q.2.category == 2)))) : lvR arr' nL (loSet1 ls i v) := by
  refine ⟨h.1, by simp [loSet1, loClrAt_len, hlen], h.2.1, fun j w hj => ?_⟩
  simp only [loSet1, List.getElem?_set] at hj
  split at hj
  · rename_i hij
    subst hij
    split at hj
    · cases hj
      exact h.2.2 (i, v) List.mem_cons_self
    · cases hj
  · rename_i hij
    obtain ⟨h1, h2⟩ := loClrAt_get hj
    refine h.2.2 (j, w) (List.mem_cons_of_mem _ (List.mem_filter.mpr ⟨loAsc_mem.mpr h1, ?_⟩))
    have e1 : (j == i) = false := by simp; omega
    by_cases hc : j + 1 = i
    · have := h2 hc
      simp [e1, this]
    · have e2 : (j + 1 == i) = false := by simp; omega
      simp [e1, e2]
theorem lvR.st2 {arr' : Array Slot} {nL i : Nat} {ls : Lo} {v : Value} (hlen : ls.length = nL) (h : lv_has arr' nL ((i, v) :: (loAsc ls).filter (fun q => !(q.1 == i) && (!(q.1 == i + 1) && !(q.1 + 1 == i && q.2.category == 2))))) : lvR arr' nL (loSet2 ls i v) := by
  refine ⟨h.1, by simp [loSet2, loClrAt_len, hlen], h.2.1, fun j w hj => ?_⟩
  simp only [loSet2, List.getElem?_set] at hj
  split at hj
  · rename_i hij
    split at hj <;> cases hj
  · rename_i hij1
    split at hj
    · rename_i hij
      subst hij
      split at hj
      · cases hj
        exact h.2.2 (i, v) List.mem_cons_self
      · cases hj
    · rename_i hij
      obtain ⟨h1, h2⟩ := loClrAt_get hj
      refine h.2.2 (j, w) (List.mem_cons_of_mem _ (List.mem_filter.mpr ⟨loAsc_mem.mpr h1, ?_⟩))
      have e1 : (j == i) = false := by simp; omega
      have e3 : (j == i + 1) = false := by simp; omega
      by_cases hc : j + 1 = i
      · have := h2 hc
        simp [e1, e3, this]
      · have e2 : (j + 1 == i) = false := by simp; omega
        simp [e1, e2, e3]
/-- what a pure step asks of the tables -/
def pureC (own : String) (args : Array Value) (s : State) (ins : Instr) (k : Int) : Prop := match ins with
  | .bipush n => (Int8.ofInt n).toInt32 = Int32.ofInt k
  | .sipush n => (Int16.ofInt n).toInt32 = Int32.ofInt k
  | .ldc2_w i => (Jvm.Cond.constantLong own i (Int64.ofInt k)).before args s = true
  | _ => True
theorem tgt_ok {pc : Nat} {o : Int} (h : 0 ≤ (pc : Int) + o) : (pc : Int) + o = ((tgt pc o : Nat) : Int) := by
  unfold tgt
  omega
section PU
variable {p : Program} {l : Launch} {e : Env} {R : Room} {s : State} {m : MethodId} {args : Array Value} {below : List Frame} {meth : Method} {c : Code} {H : Heap} {locs : List Loc} {cells slots : Nat} {Q : State → Prop}
set_option maxHeartbeats 4000000 in
theorem pure1_ok {cc : ByteArray} {own : String} {arr : Array Slot} {nL : Nat} (hx : p.tables.exec = Jvm.exec) (hb : c.code = cc) (hown : s.vm.findClass own = some m.cls) {ins : Instr} {k : Int} {pc : Nat} {ls : Lo} {st : List Value} {r : Nat × Lo × List Value} (h : pure1 ins k pc ls st = some r) (hd : decode cc pc = .ok (ins, lenOf ins)) (hk : pureC own args s ins k) (hl : lvR arr nL ls)
    (kk : ∀ arr' : Array Slot, lvR arr' nL r.2.1 → W p l e R s m args below meth c H locs cells slots Q (F0 m r.1 arr' r.2.2)) : W p l e R s m args below meth c H locs cells slots Q (F0 m pc arr st) := by
  cases ins with
  | iconst n => cases h; exact lv_iconst hx hb hd rfl (kk arr hl)
  | bipush n => cases h; exact lv_bipush hx hb hd hk (kk arr hl)
  | sipush n => cases h; exact lv_sipush hx hb hd hk (kk arr hl)
  | lconst n => cases h; exact lv_lconst hx hb hd rfl (kk arr hl)
  | ldc2_w i => cases h; exact lv_ldc2 hx hb hown hk hd (kk arr hl)
  | iload_n i =>
    simp only [pure1] at h
    split at h
    · rename_i x hx2; cases h; exact lv_iload_n hx hb hd rfl (hl.2.2.2 _ _ hx2) (kk arr hl)
    · cases h
  | iload i =>
    simp only [pure1] at h
    split at h
    · rename_i x hx2; cases h; exact lv_iload hx hb hd (hl.2.2.2 _ _ hx2) (kk arr hl)
    · cases h
  | lload_n i =>
    simp only [pure1] at h
    split at h
    · rename_i x hx2; cases h; exact lv_lload_n hx hb hd rfl (hl.2.2.2 _ _ hx2) (kk arr hl)
    · cases h
  | lload i =>
    simp only [pure1] at h
    split at h
    · rename_i x hx2; cases h; exact lv_lload hx hb hd (hl.2.2.2 _ _ hx2) (kk arr hl)
    · cases h
  | aload_n i =>
    simp only [pure1] at h
    split at h
    · rename_i x hx2; cases h; exact lv_aload_n hx hb hd rfl (hl.2.2.2 _ _ hx2) (kk arr hl)
    · cases h
  | aload i =>
    simp only [pure1] at h
    split at h
    · rename_i x hx2; cases h; exact lv_aload hx hb hd (hl.2.2.2 _ _ hx2) (kk arr hl)
    · cases h
  | istore_n i =>
    simp only [pure1] at h
    split at h
    · split at h
      · rename_i hlt; cases h; exact lv_istore_n hx hb hd rfl hl.has (by rw [← hl.2.1]; exact hlt) rfl (fun a' ha' => kk a' (lvR.st1 hl.2.1 ha'))
      · cases h
    · cases h
  | istore i =>
    simp only [pure1] at h
    split at h
    · split at h
      · rename_i hlt; cases h; exact lv_istore hx hb hd hl.has (by rw [← hl.2.1]; exact hlt) rfl (fun a' ha' => kk a' (lvR.st1 hl.2.1 ha'))
      · cases h
    · cases h
  | lstore_n i =>
    simp only [pure1] at h
    split at h
    · split at h
      · rename_i hlt; cases h; exact lv_lstore_n hx hb hd rfl hl.has (by rw [← hl.2.1]; exact hlt) rfl (fun a' ha' => kk a' (lvR.st2 hl.2.1 ha'))
      · cases h
    · cases h
  | lstore i =>
    simp only [pure1] at h
    split at h
    · split at h
      · rename_i hlt; cases h; exact lv_lstore hx hb hd hl.has (by rw [← hl.2.1]; exact hlt) rfl (fun a' ha' => kk a' (lvR.st2 hl.2.1 ha'))
      · cases h
    · cases h
  | astore_n i =>
    simp only [pure1] at h
    split at h
    · split at h
      · rename_i hlt; cases h; exact lv_astore_n hx hb hd rfl hl.has (by rw [← hl.2.1]; exact hlt) rfl (fun a' ha' => kk a' (lvR.st1 hl.2.1 ha'))
      · cases h
    · cases h
  | astore i =>
    simp only [pure1] at h
    split at h
    · split at h
      · rename_i hlt; cases h; exact lv_astore hx hb hd hl.has (by rw [← hl.2.1]; exact hlt) rfl (fun a' ha' => kk a' (lvR.st1 hl.2.1 ha'))
      · cases h
    · cases h
  | iinc i n =>
    simp only [pure1] at h
    split at h
    · rename_i x hx2
      cases h
      obtain ⟨j, hj⟩ := List.getElem?_of_mem (loAsc_mem.mpr hx2)
      exact lv_iinc hx hb hd hl.has hj rfl (by rw [← hl.2.1]; exact (List.getElem?_eq_some_iff.mp hx2).1) rfl (fun a' ha' => kk a' (lvR.st1 hl.2.1 ha'))
    · cases h
  | iadd => simp only [pure1] at h; split at h; · cases h; exact lv_iadd hx hb hd (kk arr hl)
            · cases h
  | isub => simp only [pure1] at h; split at h; · cases h; exact lv_isub hx hb hd (kk arr hl)
            · cases h
  | imul => simp only [pure1] at h; split at h; · cases h; exact lv_imul hx hb hd (kk arr hl)
            · cases h
  | iand => simp only [pure1] at h; split at h; · cases h; exact lv_iand hx hb hd (kk arr hl)
            · cases h
  | ior => simp only [pure1] at h; split at h; · cases h; exact lv_ior hx hb hd (kk arr hl)
           · cases h
  | ixor => simp only [pure1] at h; split at h; · cases h; exact lv_ixor hx hb hd (kk arr hl)
            · cases h
  | ishl => simp only [pure1] at h; split at h; · cases h; exact lv_ishl hx hb hd (kk arr hl)
            · cases h
  | ishr => simp only [pure1] at h; split at h; · cases h; exact lv_ishr hx hb hd (kk arr hl)
            · cases h
  | ladd => simp only [pure1] at h; split at h; · cases h; exact lv_ladd hx hb hd (kk arr hl)
            · cases h
  | lsub => simp only [pure1] at h; split at h; · cases h; exact lv_lsub hx hb hd (kk arr hl)
            · cases h
  | lmul => simp only [pure1] at h; split at h; · cases h; exact lv_lmul hx hb hd (kk arr hl)
            · cases h
  | land => simp only [pure1] at h; split at h; · cases h; exact lv_land hx hb hd (kk arr hl)
            · cases h
  | lor => simp only [pure1] at h; split at h; · cases h; exact lv_lor hx hb hd (kk arr hl)
           · cases h
  | lneg => simp only [pure1] at h; split at h; · cases h; exact lv_lneg hx hb hd (kk arr hl)
            · cases h
  | lshl => simp only [pure1] at h; split at h; · cases h; exact lv_lshl hx hb hd rfl (kk arr hl)
            · cases h
  | lshr => simp only [pure1] at h; split at h; · cases h; exact lv_lshr hx hb hd rfl (kk arr hl)
            · cases h
  | i2l => simp only [pure1] at h; split at h; · cases h; exact lv_i2l hx hb hd rfl (kk arr hl)
           · cases h
  | l2i => simp only [pure1] at h; split at h; · cases h; exact lv_l2i hx hb hd rfl (kk arr hl)
           · cases h
  | lcmp => simp only [pure1] at h; split at h; · cases h; exact W.lcmp hx hb hd (kk arr hl)
            · cases h
  | dup =>
    simp only [pure1] at h
    split at h
    · cases h; exact lv_dup hx hb hd rfl (kk arr hl)
    · cases h; exact lv_dup hx hb hd rfl (kk arr hl)
    · cases h
  | pop =>
    simp only [pure1] at h
    split at h
    · cases h; exact lv_pop hx hb hd rfl (kk arr hl)
    · cases h; exact lv_pop hx hb hd rfl (kk arr hl)
    · cases h
  | goto o =>
    simp only [pure1] at h
    split at h
    · rename_i ho; cases h; exact lv_goto hx hb hd (tgt_ok ho) (kk arr hl)
    · cases h
  | _ => simp [pure1] at h
end PU
