/-! ROWS OF THE MINI MACHINE: goal first, a row an instruction that isn't pure, one row for a stretch of pure ones -/
def runN (y : Nat) : Nat → Nat → Lo → List Value → Option (Nat × Lo × List Value)
  | 0, pc, ls, st => some (pc, ls, st)
  | n + 1, pc, ls, st => match (mm_pr y).bind (fun mi => mi.co pc) with
    | some (ins, _, _, _, k) => (match pure1 ins k pc ls st with
      | some (pc', ls', st') => runN y n pc' ls' st'
      | none => none)
    | none => none
section ER
variable {G : Gw} {y pc : Nat} {ls : Lo} {st : List Value} {M : Mm} {sz sl fr lo : Nat} {Q : Po}
theorem ev_run (n : Nat) {pc' : Nat} {ls' : Lo} {st' : List Value} (h : runN y n pc ls st = some (pc', ls', st')) (k : Ev G y pc' ls' st' M sz sl fr lo Q) : Ev G y pc ls st M sz sl fr lo Q := by
  induction n generalizing pc ls st with
  | zero =>
    simp only [runN, Option.some.injEq, Prod.mk.injEq] at h
    obtain ⟨rfl, rfl, rfl⟩ := h
    exact k
  | succ n ih =>
    simp only [runN] at h
    split at h
    · rename_i ins w x z kk hc
      split at h
      · rename_i p1 l1 s1 hp
        refine Ev.fold ?_
        unfold stp
        rw [hc]
        simp only [hp]
        exact ih h
      · cases h
    · cases h
variable {w x z : Nat} {k : Int}
theorem ev_mem {ins : Instr} (hc : (mm_pr y).bind (fun mi => mi.co pc) = some (ins, w, x, z, k)) (hp : pure1 ins k pc ls st = none) (h : memS G (Ev G) y pc ls st M sz sl fr lo Q ins w x z k) : Ev G y pc ls st M sz sl fr lo Q := by
  refine Ev.fold ?_
  unfold stp
  rw [hc]
  simp only [hp]
  exact h
variable {r : List Value}
theorem ev_if {c : ClassFile.Cond} {o : Int} {v : Int32} (hc : (mm_pr y).bind (fun mi => mi.co pc) = some (.ifCond c o, w, x, z, k)) (t : Nat) (ht : (pc : Int) + o = (t : Int)) (k1 : cndZ c v → Ev G y t ls r M sz sl fr lo Q) (k2 : ¬ cndZ c v → Ev G y (pc + 3) ls r M sz sl fr lo Q) : Ev G y pc ls (.int v :: r) M sz sl fr lo Q := by
  refine ev_mem hc rfl ⟨by omega, fun h => ?_, k2⟩
  have : tgt pc o = t := by unfold tgt; omega
  rw [this]
  exact k1 h
theorem ev_icmp {c : ClassFile.Cond} {o : Int} {v u : Int32} (hc : (mm_pr y).bind (fun mi => mi.co pc) = some (.if_icmp c o, w, x, z, k)) (t : Nat) (ht : (pc : Int) + o = (t : Int)) (k1 : cndI c u v → Ev G y t ls r M sz sl fr lo Q) (k2 : ¬ cndI c u v → Ev G y (pc + 3) ls r M sz sl fr lo Q) : Ev G y pc ls (.int v :: .int u :: r) M sz sl fr lo Q := by
  refine ev_mem hc rfl ⟨by omega, fun h => ?_, k2⟩
  have : tgt pc o = t := by unfold tgt; omega
  rw [this]
  exact k1 h
theorem ev_tsOut {d a b : Int} {offs : Array Int} {v : Int32} (hc : (mm_pr y).bind (fun mi => mi.co pc) = some (.tableswitch d a b offs, w, x, z, k)) (t : Nat) (ht : (pc : Int) + d = (t : Int)) (hv : v.toInt < a ∨ b < v.toInt) (k1 : Ev G y t ls r M sz sl fr lo Q) : Ev G y pc ls (.int v :: r) M sz sl fr lo Q := by
  refine ev_mem hc rfl ⟨fun _ => ⟨by omega, ?_⟩, fun h1 h2 => absurd hv (by omega)⟩
  have : tgt pc d = t := by unfold tgt; omega
  rw [this]
  exact k1
theorem ev_tsIn {d a b o : Int} {offs : Array Int} {v : Int32} (hc : (mm_pr y).bind (fun mi => mi.co pc) = some (.tableswitch d a b offs, w, x, z, k)) (h1 : ¬ v.toInt < a) (h2 : ¬ b < v.toInt) (ho : offs[(v.toInt - a).toNat]? = some o) (t : Nat) (ht : (pc : Int) + o = (t : Int)) (k1 : Ev G y t ls r M sz sl fr lo Q) : Ev G y pc ls (.int v :: r) M sz sl fr lo Q := by
  refine ev_mem hc rfl ⟨fun h => absurd h (by omega), fun _ _ => ⟨o, ho, by omega, ?_⟩⟩
  have : tgt pc o = t := by unfold tgt; omega
  rw [this]
  exact k1
theorem ev_irem {v u : Int32} (hc : (mm_pr y).bind (fun mi => mi.co pc) = some (.irem, w, x, z, k)) (hv : ¬ v = 0) (k1 : Ev G y (pc + 1) ls (.int (u - u / v * v) :: r) M sz sl fr lo Q) : Ev G y pc ls (.int v :: .int u :: r) M sz sl fr lo Q := ev_mem hc rfl ⟨hv, k1⟩
theorem ev_idiv {v u : Int32} (hc : (mm_pr y).bind (fun mi => mi.co pc) = some (.idiv, w, x, z, k)) (hv : ¬ v = 0) (k1 : Ev G y (pc + 1) ls (.int (u / v) :: r) M sz sl fr lo Q) : Ev G y pc ls (.int v :: .int u :: r) M sz sl fr lo Q := ev_mem hc rfl ⟨hv, k1⟩
theorem ev_get {i a : Nat} {fs : List Value} {v : Value} (hc : (mm_pr y).bind (fun mi => mi.co pc) = some (.getfield i, w, x, z, k)) (hM : M a = some (.inr (x, fs))) (hv : fs[z]? = some v) (k1 : Ev G y (pc + 3) ls (v :: r) M sz sl fr lo Q) : Ev G y pc ls (.ref a :: r) M sz sl fr lo Q := ev_mem hc rfl ⟨fs, v, hM, hv, k1⟩
theorem ev_put {i a : Nat} {fs : List Value} {v : Value} (hc : (mm_pr y).bind (fun mi => mi.co pc) = some (.putfield i, w, x, z, k)) (hM : M a = some (.inr (x, fs))) (hl : z < fs.length) (hn : narrow (mm_fty x z) v = v) (hf : fits (mm_fty x z) v = true) (k1 : Ev G y (pc + 3) ls r (mUp M a (.inr (x, fs.set z v))) sz sl fr lo Q) : Ev G y pc ls (v :: .ref a :: r) M sz sl fr lo Q := ev_mem hc rfl ⟨fs, hM, hl, hn, hf, k1⟩
theorem ev_gets {i : Nat} (hc : (mm_pr y).bind (fun mi => mi.co pc) = some (.getstatic i, w, x, z, k)) (k1 : Ev G y (pc + 3) ls (.ref (G.sa x) :: r) M sz sl fr lo Q) : Ev G y pc ls r M sz sl fr lo Q := ev_mem hc rfl k1
theorem ev_iald {i : Int32} {a n : Nat} {f : Nat → Int32} (hc : (mm_pr y).bind (fun mi => mi.co pc) = some (.iaload, 0, x, z, k)) (hM : M a = some (.inl (G.dA x, n, .inl f))) (hi : vp_in i n) (k1 : Ev G y (pc + 1) ls (.int (f i.toNatClampNeg) :: r) M sz sl fr lo Q) : Ev G y pc ls (.int i :: .ref a :: r) M sz sl fr lo Q := ev_mem hc rfl (by simp only [memS]; exact ⟨n, f, hM, hi, k1⟩)
theorem ev_iaS {i : Int32} (hc : (mm_pr y).bind (fun mi => mi.co pc) = some (.iaload, 1, x, z, k)) (hi : vp_in i (mm_sv x).1) (k1 : Ev G y (pc + 1) ls (.int ((mm_sv x).2 i.toNatClampNeg) :: r) M sz sl fr lo Q) : Ev G y pc ls (.int i :: .ref (G.sa x) :: r) M sz sl fr lo Q := ev_mem hc rfl (by simp only [memS]; exact ⟨trivial, hi, k1⟩)
theorem ev_iaX {i : Int32} (hc : (mm_pr y).bind (fun mi => mi.co pc) = some (.iaload, 2, x, z, k)) (hi : vp_in i G.xl) (k1 : Ev G y (pc + 1) ls (.int (G.xs i.toNatClampNeg) :: r) M sz sl fr lo Q) : Ev G y pc ls (.int i :: .ref G.xa :: r) M sz sl fr lo Q := ev_mem hc rfl (by simp only [memS]; exact ⟨trivial, hi, k1⟩)
theorem ev_lald {i : Int32} {a n : Nat} {f : Nat → Int64} (hc : (mm_pr y).bind (fun mi => mi.co pc) = some (.laload, w, x, z, k)) (hM : M a = some (.inl (G.dA x, n, .inr (.inl f)))) (hi : vp_in i n) (k1 : Ev G y (pc + 1) ls (.long (f i.toNatClampNeg) :: r) M sz sl fr lo Q) : Ev G y pc ls (.int i :: .ref a :: r) M sz sl fr lo Q := ev_mem hc rfl ⟨n, f, hM, hi, k1⟩
theorem ev_bald {i : Int32} {a n : Nat} {f : Nat → Int32} (hc : (mm_pr y).bind (fun mi => mi.co pc) = some (.baload, w, x, z, k)) (hM : M a = some (.inl (G.dA x, n, .inl f))) (hi : vp_in i n) (k1 : Ev G y (pc + 1) ls (.int (f i.toNatClampNeg) :: r) M sz sl fr lo Q) : Ev G y pc ls (.int i :: .ref a :: r) M sz sl fr lo Q := ev_mem hc rfl ⟨n, f, hM, hi, k1⟩
theorem ev_aald {i : Int32} {a n : Nat} {f : Nat → Option Nat} {q : Nat} (hc : (mm_pr y).bind (fun mi => mi.co pc) = some (.aaload, w, x, z, k)) (hM : M a = some (.inl (G.dA x, n, .inr (.inr (.inr (.inr f)))))) (hi : vp_in i n) (hq : f i.toNatClampNeg = some q) (k1 : Ev G y (pc + 1) ls (.ref q :: r) M sz sl fr lo Q) : Ev G y pc ls (.int i :: .ref a :: r) M sz sl fr lo Q := ev_mem hc rfl ⟨n, f, hM, hi, by rw [hq]; exact k1⟩
theorem ev_iast {i v : Int32} {a n : Nat} {f : Nat → Int32} (hc : (mm_pr y).bind (fun mi => mi.co pc) = some (.iastore, w, x, z, k)) (hM : M a = some (.inl (G.dA x, n, .inl f))) (hi : vp_in i n) (k1 : Ev G y (pc + 1) ls r (mUp M a (.inl (G.dA x, n, .inl (upd f i.toNatClampNeg v)))) sz sl fr lo Q) : Ev G y pc ls (.int v :: .int i :: .ref a :: r) M sz sl fr lo Q := ev_mem hc rfl ⟨n, f, hM, hi, k1⟩
theorem ev_last {i : Int32} {v : Int64} {a n : Nat} {f : Nat → Int64} (hc : (mm_pr y).bind (fun mi => mi.co pc) = some (.lastore, w, x, z, k)) (hM : M a = some (.inl (G.dA x, n, .inr (.inl f)))) (hi : vp_in i n) (k1 : Ev G y (pc + 1) ls r (mUp M a (.inl (G.dA x, n, .inr (.inl (vp_updL f i.toNatClampNeg v))))) sz sl fr lo Q) : Ev G y pc ls (.long v :: .int i :: .ref a :: r) M sz sl fr lo Q := ev_mem hc rfl ⟨n, f, hM, hi, k1⟩
theorem ev_bast {i v : Int32} {a n : Nat} {f : Nat → Int32} (hc : (mm_pr y).bind (fun mi => mi.co pc) = some (.bastore, w, x, z, k)) (hM : M a = some (.inl (G.dA x, n, .inl f))) (hi : vp_in i n) (hv : vp_nar .boolean v = v) (k1 : Ev G y (pc + 1) ls r (mUp M a (.inl (G.dA x, n, .inl (upd f i.toNatClampNeg v)))) sz sl fr lo Q) : Ev G y pc ls (.int v :: .int i :: .ref a :: r) M sz sl fr lo Q := ev_mem hc rfl ⟨n, f, hM, hi, hv, k1⟩
theorem ev_aast {i : Int32} {a n v : Nat} {fs : List Value} {f : Nat → Option Nat} (hc : (mm_pr y).bind (fun mi => mi.co pc) = some (.aastore, w, x, z, k)) (hM : M a = some (.inl (G.dA x, n, .inr (.inr (.inr (.inr f)))))) (hi : vp_in i n) (hv : M v = some (.inr (z, fs))) (k1 : Ev G y (pc + 1) ls r (mUp M a (.inl (G.dA x, n, .inr (.inr (.inr (.inr (va_up f i.toNatClampNeg (some v)))))))) sz sl fr lo Q) : Ev G y pc ls (.ref v :: .int i :: .ref a :: r) M sz sl fr lo Q := ev_mem hc rfl ⟨n, f, fs, hM, hi, hv, k1⟩
theorem ev_alenX (hc : (mm_pr y).bind (fun mi => mi.co pc) = some (.arraylength, 2, x, z, k)) (k1 : Ev G y (pc + 1) ls (.int (Int32.ofNat G.xl) :: r) M sz sl fr lo Q) : Ev G y pc ls (.ref G.xa :: r) M sz sl fr lo Q := ev_mem hc rfl (by simp only [memS]; exact ⟨trivial, k1⟩)
theorem ev_alen {a : Nat} {v : vp_A} (hc : (mm_pr y).bind (fun mi => mi.co pc) = some (.arraylength, 0, x, z, k)) (hM : M a = some (.inl (G.dA x, v))) (k1 : Ev G y (pc + 1) ls (.int (Int32.ofNat v.1) :: r) M sz sl fr lo Q) : Ev G y pc ls (.ref a :: r) M sz sl fr lo Q := ev_mem hc rfl (by simp only [memS]; exact ⟨v, hM, k1⟩)
theorem ev_newa {t : ArrayType} {n : Int32} (hc : (mm_pr y).bind (fun mi => mi.co pc) = some (.newarray t, w, x, z, k)) (N : Nat) (hn : n = nI N) (hN : N * arBy x ≤ 536870912) (h1 : sz + 1 ≤ G.b0 + mm_mxC) (h2 : sl + N ≤ mm_mxS) (k1 : Ev G y (pc + 2) ls (.ref sz :: r) (mUp M sz (.inl (G.dA x, arDf x N))) (sz + 1) (sl + N) fr lo Q) (h31 : N < 2 ^ 31 := by decide) : Ev G y pc ls (.int n :: r) M sz sl fr lo Q := by
  subst hn
  have e := nI_clamp h31
  exact ev_mem hc rfl ⟨nI_pos h31, by rw [e]; exact hN, h1, by rw [e]; exact h2, by rw [e]; exact k1⟩
theorem ev_anew {i : Nat} {n : Int32} (hc : (mm_pr y).bind (fun mi => mi.co pc) = some (.anewarray i, w, x, z, k)) (N : Nat) (hn : n = nI N) (hN : N * 4 ≤ 536870912) (h1 : sz + 1 ≤ G.b0 + mm_mxC) (h2 : sl + N ≤ mm_mxS) (k1 : Ev G y (pc + 3) ls (.ref sz :: r) (mUp M sz (.inl (G.dA x, arDf x N))) (sz + 1) (sl + N) fr lo Q) (h31 : N < 2 ^ 31 := by decide) : Ev G y pc ls (.int n :: r) M sz sl fr lo Q := by
  subst hn
  have e := nI_clamp h31
  exact ev_mem hc rfl ⟨nI_pos h31, by rw [e]; exact hN, h1, by rw [e]; exact h2, by rw [e]; exact k1⟩
theorem ev_new {i : Nat} (hc : (mm_pr y).bind (fun mi => mi.co pc) = some (.new i, w, x, 0, k)) (h1 : sz + 1 ≤ G.b0 + mm_mxC) (h2 : sl + (obDf x).length ≤ mm_mxS) (k1 : Ev G y (pc + 3) ls (.ref sz :: r) (mUp M sz (.inr (x, obDf x))) (sz + 1) (sl + (obDf x).length) fr lo Q) : Ev G y pc ls r M sz sl fr lo Q := ev_mem hc rfl (by simp only [memS]; exact ⟨h1, h2, k1⟩)
theorem ev_throw {i : Nat} (hc : (mm_pr y).bind (fun mi => mi.co pc) = some (.new i, w, x, 1, k)) (h1 : sz + 1 ≤ G.b0 + mm_mxC) (h2 : sl + 6 ≤ mm_mxS) (h3 : 8 ≤ fr) (h4 : 120 ≤ lo) (k1 : Q (.inr x) M (sz + 1) (sl + 6)) : Ev G y pc ls [] M sz sl fr lo Q := ev_mem hc rfl (by simp only [memS]; exact ⟨trivial, h1, h2, h3, h4, k1⟩)
theorem ev_obj {i a : Nat} (hc : (mm_pr y).bind (fun mi => mi.co pc) = some (.invokespecial i, w, x, 1, k)) (h1 : 1 ≤ fr) (h2 : (r.map (fun v => v.category)).sum + 12 ≤ lo) (k1 : Ev G y (pc + 3) ls r M sz sl fr lo Q) : Ev G y pc ls (.ref a :: r) M sz sl fr lo Q := ev_mem hc rfl (by simp only [memS]; exact ⟨h1, h2, k1⟩)
theorem ev_iret {v : Int32} (hc : (mm_pr y).bind (fun mi => mi.co pc) = some (.ireturn, w, x, z, k)) (hr : ∃ mi t, mm_pr y = some mi ∧ mi.rt = some t ∧ narrow t (.int v) = .int v) (k1 : Q (.inl (some (.int v))) M sz sl) : Ev G y pc ls [.int v] M sz sl fr lo Q := ev_mem hc rfl ⟨hr, k1⟩
theorem ev_lret {v : Int64} (hc : (mm_pr y).bind (fun mi => mi.co pc) = some (.lreturn, w, x, z, k)) (k1 : Q (.inl (some (.long v))) M sz sl) : Ev G y pc ls [.long v] M sz sl fr lo Q := ev_mem hc rfl k1
theorem ev_vret (hc : (mm_pr y).bind (fun mi => mi.co pc) = some (.return_, w, x, z, k)) (k1 : Q (.inl none) M sz sl) : Ev G y pc ls [] M sz sl fr lo Q := ev_mem hc rfl k1
/-- a call: the callee's end Qc, and what follows it -/
theorem ev_callV {i x : Nat} {mi : Mi} (hc : (mm_pr y).bind (fun mi => mi.co pc) = some (.invokevirtual i, w, x, z, k)) (hm : mm_pr x = some mi) {a : Nat} {As rest : List Value} (hs : st = As.reverse ++ .ref a :: rest) (hn : mi.na = As.length + 1) {fs : List Value} (hM : M a = some (.inr (z, fs))) (hL : (loArgs (.ref a :: As)).length ≤ mi.mL) (h1 : 1 ≤ fr) (h2 : mi.mL + 25 ≤ lo) (h3 : (rest.map (fun v => v.category)).sum ≤ 14) (Qc : Po)
    (hq : Ev G x 0 (loEnt mi.mL (.ref a :: As)) [] M sz sl (fr - 1) (lo - (mi.mL + 25)) Qc) (hb : ∀ (o : Ou) (M' : Mm) (sz' sl' : Nat), Qc o M' sz' sl' → backP (Ev G) y pc ls rest fr lo Q o M' sz' sl') : Ev G y pc ls st M sz sl fr lo Q := by
  have e1 : (st.take mi.na).reverse = .ref a :: As := by
    rw [hs, hn, List.take_append, List.take_of_length_le (by simp)]
    simp
  have e2 : st.drop mi.na = rest := by
    rw [hs, hn, List.drop_append, List.drop_of_length_le (by simp)]
    simp
  refine ev_mem hc rfl ?_
  simp only [memS, callP, hm]
  rw [e1, e2]
  exact ⟨by rw [hs, hn]; simp, ⟨fs, hM⟩, hL, h1, h2, h3, Qc, hq, hb⟩
theorem ev_callI {i x : Nat} {mi : Mi} (hc : (mm_pr y).bind (fun mi => mi.co pc) = some (.invokespecial i, w, x, 0, k)) (hm : mm_pr x = some mi) {a : Nat} {As rest : List Value} (hs : st = As.reverse ++ .ref a :: rest) (hn : mi.na = As.length + 1) (hL : (loArgs (.ref a :: As)).length ≤ mi.mL) (h1 : 1 ≤ fr) (h2 : mi.mL + 25 ≤ lo) (h3 : (rest.map (fun v => v.category)).sum ≤ 14) (Qc : Po)
    (hq : Ev G x 0 (loEnt mi.mL (.ref a :: As)) [] M sz sl (fr - 1) (lo - (mi.mL + 25)) Qc) (hb : ∀ (o : Ou) (M' : Mm) (sz' sl' : Nat), Qc o M' sz' sl' → backP (Ev G) y pc ls rest fr lo Q o M' sz' sl') : Ev G y pc ls st M sz sl fr lo Q := by
  have e1 : (st.take mi.na).reverse = .ref a :: As := by
    rw [hs, hn, List.take_append, List.take_of_length_le (by simp)]
    simp
  have e2 : st.drop mi.na = rest := by
    rw [hs, hn, List.drop_append, List.drop_of_length_le (by simp)]
    simp
  refine ev_mem hc rfl ?_
  simp only [memS, callP, hm]
  rw [e1, e2]
  exact ⟨by rw [hs, hn]; simp, trivial, hL, h1, h2, h3, Qc, hq, hb⟩
theorem ev_callS {i x : Nat} {mi : Mi} (hc : (mm_pr y).bind (fun mi => mi.co pc) = some (.invokestatic i, w, x, z, k)) (hm : mm_pr x = some mi) {As rest : List Value} (hs : st = As.reverse ++ rest) (hn : mi.na = As.length) (hL : (loArgs As).length ≤ mi.mL) (h1 : 1 ≤ fr) (h2 : mi.mL + 25 ≤ lo) (h3 : (rest.map (fun v => v.category)).sum ≤ 14) (Qc : Po)
    (hq : Ev G x 0 (loEnt mi.mL As) [] M sz sl (fr - 1) (lo - (mi.mL + 25)) Qc) (hb : ∀ (o : Ou) (M' : Mm) (sz' sl' : Nat), Qc o M' sz' sl' → backP (Ev G) y pc ls rest fr lo Q o M' sz' sl') : Ev G y pc ls st M sz sl fr lo Q := by
  have e1 : (st.take mi.na).reverse = As := by
    rw [hs, hn, List.take_append, List.take_of_length_le (by simp)]
    simp
  have e2 : st.drop mi.na = rest := by
    rw [hs, hn, List.drop_append, List.drop_of_length_le (by simp)]
    simp
  refine ev_mem hc rfl ?_
  simp only [memS, callP, hm]
  rw [e1, e2]
  exact ⟨by rw [hs, hn]; simp, trivial, hL, h1, h2, h3, Qc, hq, hb⟩
end ER
