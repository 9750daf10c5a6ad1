/-! THE CLASS: questions and checks -/
theorem m8 {G : Gw} {S : Sg} {k : Nat} {Q : AQ} {w h : Int} (hw : r64 w) (hh : r64 h) (h1 : (1 ≤ w ∧ w ≤ 1000) ∧ (1 ≤ h ∧ h ≤ 1000) → Q (.inl none) S) (h0 : ¬ ((1 ≤ w ∧ w ≤ 1000) ∧ (1 ≤ h ∧ h ≤ 1000)) → Q (.inr 0) S) : Es G 8 0 (aEnt 4 [aL w, aL h]) [] S (k + 0) Q := by
  refine es_rg (fun hg1 => ?_)
  refine es_s0 2 (pc' := 2) (ls' := [some (aL w), none, some (aL h), none]) (st' := [aL (1 : Int), aL w]) (S' := S) rfl ?_
  refine es_lif rfl rfl 28 rfl (by assumption) ⟨by decide, by decide⟩ (fun (g2 : w < (1 : Int)) => ?_) (fun (g2 : ¬ (w < (1 : Int))) => ?_)
  · refine es_throw rfl ?_
    first | exact h1 (by omega) | exact h0 (by omega)
  · refine es_s0 2 (pc' := 10) (ls' := [some (aL w), none, some (aL h), none]) (st' := [aL (1000 : Int), aL w]) (S' := S) rfl ?_
    refine es_lif rfl rfl 28 rfl (by assumption) ⟨by decide, by decide⟩ (fun (g10 : (1000 : Int) < w) => ?_) (fun (g10 : ¬ ((1000 : Int) < w)) => ?_)
    · refine es_throw rfl ?_
      first | exact h1 (by omega) | exact h0 (by omega)
    · refine es_s0 2 (pc' := 16) (ls' := [some (aL w), none, some (aL h), none]) (st' := [aL (1 : Int), aL h]) (S' := S) rfl ?_
      refine es_lif rfl rfl 28 rfl (by assumption) ⟨by decide, by decide⟩ (fun (g16 : h < (1 : Int)) => ?_) (fun (g16 : ¬ (h < (1 : Int))) => ?_)
      · refine es_throw rfl ?_
        first | exact h1 (by omega) | exact h0 (by omega)
      · refine es_s0 2 (pc' := 24) (ls' := [some (aL w), none, some (aL h), none]) (st' := [aL (1000 : Int), aL h]) (S' := S) rfl ?_
        refine es_lif rfl rfl 38 rfl (by assumption) ⟨by decide, by decide⟩ (fun (g24 : h ≤ (1000 : Int)) => ?_) (fun (g24 : ¬ (h ≤ (1000 : Int))) => ?_)
        · refine es_vret rfl ?_
          first | exact h1 (by omega) | exact h0 (by omega)
        · refine es_throw rfl ?_
          first | exact h1 (by omega) | exact h0 (by omega)
theorem m16 {G : Gw} {S : Sg} {k : Nat} {Q : AQ} {n : Int} (hn : r32 n) (h1 : 0 ≤ n ∧ n < S 0 0 5 → Q (.inl (some (aI 1))) S) (h0 : ¬ (0 ≤ n ∧ n < S 0 0 5) → Q (.inl (some (aI 0))) S) : Es G 16 0 (aEnt 2 [aR 0 (0 : Int), aI n]) [] S (k + 0) Q := by
  refine es_rg (fun hg1 => ?_)
  refine es_s0 1 (pc' := 1) (ls' := [some (aR 0 (0 : Int)), some (aI n)]) (st' := [aI n]) (S' := S) rfl ?_
  refine es_if rfl 16 rfl (by assumption) (fun (g1 : n < (0 : Int)) => ?_) (fun (g1 : ¬ (n < (0 : Int))) => ?_)
  · refine es_s0 1 (pc' := 17) (ls' := [some (aR 0 (0 : Int)), some (aI n)]) (st' := [aI (0 : Int)]) (S' := S) rfl ?_
    refine es_iret rfl rfl rfl (Or.inr ⟨rfl, (by decide)⟩) ?_
    first | exact h1 (by omega) | exact h0 (by omega)
  · refine es_sg 3 (p := (0 : Int) = 0) (pc' := 9) (ls' := [some (aR 0 (0 : Int)), some (aI n)]) (st' := [aI (S 0 0 5), aI n]) (S' := S) rfl rfl ?_
    refine es_icmp rfl 16 rfl (by assumption) (rgI hg1 (t := 0) (i := (0 : Int)) (q := (5 : Int)) (by omega : 0 ≤ (0 : Int) ∧ (0 : Int) < 1) (by omega) rfl) (fun (g9 : (S 0 0 5) ≤ n) => ?_) (fun (g9 : ¬ ((S 0 0 5) ≤ n)) => ?_)
    · refine es_s0 1 (pc' := 17) (ls' := [some (aR 0 (0 : Int)), some (aI n)]) (st' := [aI (0 : Int)]) (S' := S) rfl ?_
      refine es_iret rfl rfl rfl (Or.inr ⟨rfl, (by decide)⟩) ?_
      first | exact h1 (by omega) | exact h0 (by omega)
    · refine es_s0 2 (pc' := 17) (ls' := [some (aR 0 (0 : Int)), some (aI n)]) (st' := [aI (1 : Int)]) (S' := S) rfl ?_
      refine es_iret rfl rfl rfl (Or.inr ⟨rfl, (by decide)⟩) ?_
      first | exact h1 (by omega) | exact h0 (by omega)
theorem m17 {G : Gw} {S : Sg} {k : Nat} {Q : AQ} {n : Int} (hn : r32 n) (h1 : 0 ≤ n ∧ n < S 0 0 5 → Q (.inl none) S) (h0 : ¬ (0 ≤ n ∧ n < S 0 0 5) → Q (.inr 1) S) : Es G 17 0 (aEnt 2 [aR 0 (0 : Int), aI n]) [] S (k + 1) Q := by
  refine es_rg (fun hg1 => ?_)
  refine es_s0 2 (pc' := 2) (ls' := [some (aR 0 (0 : Int)), some (aI n)]) (st' := [aI n, aR 0 (0 : Int)]) (S' := S) rfl ?_
  refine es_callV rfl rfl 0 (0 : Int) [aI n] [] rfl rfl rfl rfl (Nat.le_of_ble_eq_true rfl) (Nat.le_of_ble_eq_true rfl) (Nat.le_of_ble_eq_true rfl) ?_
  refine m16 (by assumption) (fun hc => ?_) (fun hc => ?_)
  · show Es G 17 5 [some (aR 0 (0 : Int)), some (aI n)] [aI (1 : Int)] S _ _
    refine es_if rfl 18 rfl ⟨by decide, by decide⟩ (fun (g5 : ¬ (1 : Int) = (0 : Int)) => ?_) (fun (g5 : ¬ (¬ (1 : Int) = (0 : Int))) => absurd g5 (by decide))
    refine es_vret rfl ?_
    first | exact h1 (by omega) | exact h0 (by omega)
  · show Es G 17 5 [some (aR 0 (0 : Int)), some (aI n)] [aI (0 : Int)] S _ _
    refine es_if rfl 18 rfl ⟨by decide, by decide⟩ (fun (g5 : ¬ (0 : Int) = (0 : Int)) => absurd g5 (by decide)) (fun (g5 : ¬ (¬ (0 : Int) = (0 : Int))) => ?_)
    refine es_throw rfl ?_
    first | exact h1 (by omega) | exact h0 (by omega)
theorem m18 {G : Gw} {S : Sg} {k : Nat} {Q : AQ} {v m : Int} (hv : r64 v) (hm : 0 ≤ m ∧ m ≤ 4000000) (h1 : -m ≤ v ∧ v ≤ m → Q (.inl (some (aI 1))) S) (h0 : ¬ (-m ≤ v ∧ v ≤ m) → Q (.inl (some (aI 0))) S) : Es G 18 0 (aEnt 4 [aL v, aL m]) [] S (k + 0) Q := by
  refine es_rg (fun hg1 => ?_)
  refine es_s0 3 (pc' := 3) (ls' := [some (aL v), none, some (aL m), none]) (st' := [aL (-m), aL v]) (S' := S) rfl ?_
  refine es_lif rfl rfl 17 rfl (by assumption) ⟨by omega, by omega⟩ (fun (g3 : v < (-m)) => ?_) (fun (g3 : ¬ (v < (-m))) => ?_)
  · refine es_s0 1 (pc' := 18) (ls' := [some (aL v), none, some (aL m), none]) (st' := [aI (0 : Int)]) (S' := S) rfl ?_
    refine es_iret rfl rfl rfl (Or.inr ⟨rfl, (by decide)⟩) ?_
    first | exact h1 (by omega) | exact h0 (by omega)
  · refine es_s0 2 (pc' := 9) (ls' := [some (aL v), none, some (aL m), none]) (st' := [aL m, aL v]) (S' := S) rfl ?_
    refine es_lif rfl rfl 17 rfl (by assumption) ⟨by omega, by omega⟩ (fun (g9 : m < v) => ?_) (fun (g9 : ¬ (m < v)) => ?_)
    · refine es_s0 1 (pc' := 18) (ls' := [some (aL v), none, some (aL m), none]) (st' := [aI (0 : Int)]) (S' := S) rfl ?_
      refine es_iret rfl rfl rfl (Or.inr ⟨rfl, (by decide)⟩) ?_
      first | exact h1 (by omega) | exact h0 (by omega)
    · refine es_s0 2 (pc' := 18) (ls' := [some (aL v), none, some (aL m), none]) (st' := [aI (1 : Int)]) (S' := S) rfl ?_
      refine es_iret rfl rfl rfl (Or.inr ⟨rfl, (by decide)⟩) ?_
      first | exact h1 (by omega) | exact h0 (by omega)
theorem m19 {G : Gw} {S : Sg} {k : Nat} {Q : AQ} {x y : Int} (hx : r64 x) (hy : r64 y) (h1 : (-1000000 ≤ x ∧ x ≤ 1000000) ∧ (-1000000 ≤ y ∧ y ≤ 1000000) → Q (.inl none) S) (h0 : ¬ ((-1000000 ≤ x ∧ x ≤ 1000000) ∧ (-1000000 ≤ y ∧ y ≤ 1000000)) → Q (.inr 0) S) : Es G 19 0 (aEnt 4 [aL x, aL y]) [] S (k + 1) Q := by
  refine es_rg (fun hg1 => ?_)
  refine es_s0 2 (pc' := 4) (ls' := [some (aL x), none, some (aL y), none]) (st' := [aL (1000000 : Int), aL x]) (S' := S) rfl ?_
  refine es_callS rfl rfl [aL x, aL (1000000 : Int)] [] rfl rfl (Nat.le_of_ble_eq_true rfl) (Nat.le_of_ble_eq_true rfl) (Nat.le_of_ble_eq_true rfl) ?_
  refine m18 (by assumption) ⟨by omega, by omega⟩ (fun hc4 => ?_) (fun hc4 => ?_)
  · show Es G 19 7 [some (aL x), none, some (aL y), none] [aI (1 : Int)] S _ _
    refine es_if rfl 20 rfl ⟨by decide, by decide⟩ (fun (g7 : (1 : Int) = (0 : Int)) => absurd g7 (by decide)) (fun (g7 : ¬ ((1 : Int) = (0 : Int))) => ?_)
    refine es_s0 2 (pc' := 14) (ls' := [some (aL x), none, some (aL y), none]) (st' := [aL (1000000 : Int), aL y]) (S' := S) rfl ?_
    refine es_callS rfl rfl [aL y, aL (1000000 : Int)] [] rfl rfl (Nat.le_of_ble_eq_true rfl) (Nat.le_of_ble_eq_true rfl) (Nat.le_of_ble_eq_true rfl) ?_
    refine m18 (by assumption) ⟨by omega, by omega⟩ (fun hc14 => ?_) (fun hc14 => ?_)
    · show Es G 19 17 [some (aL x), none, some (aL y), none] [aI (1 : Int)] S _ _
      refine es_if rfl 30 rfl ⟨by decide, by decide⟩ (fun (g17 : ¬ (1 : Int) = (0 : Int)) => ?_) (fun (g17 : ¬ (¬ (1 : Int) = (0 : Int))) => absurd g17 (by decide))
      refine es_vret rfl ?_
      first | exact h1 (by omega) | exact h0 (by omega)
    · show Es G 19 17 [some (aL x), none, some (aL y), none] [aI (0 : Int)] S _ _
      refine es_if rfl 30 rfl ⟨by decide, by decide⟩ (fun (g17 : ¬ (0 : Int) = (0 : Int)) => absurd g17 (by decide)) (fun (g17 : ¬ (¬ (0 : Int) = (0 : Int))) => ?_)
      refine es_throw rfl ?_
      first | exact h1 (by omega) | exact h0 (by omega)
  · show Es G 19 7 [some (aL x), none, some (aL y), none] [aI (0 : Int)] S _ _
    refine es_if rfl 20 rfl ⟨by decide, by decide⟩ (fun (g7 : (0 : Int) = (0 : Int)) => ?_) (fun (g7 : ¬ ((0 : Int) = (0 : Int))) => absurd g7 (by decide))
    refine es_throw rfl ?_
    first | exact h1 (by omega) | exact h0 (by omega)
theorem m20 {G : Gw} {S : Sg} {k : Nat} {Q : AQ} {t : Int} (ht : r32 t) (h1 : 0 ≤ t ∧ t < 4 → Q (.inl none) S) (h0 : ¬ (0 ≤ t ∧ t < 4) → Q (.inr 0) S) : Es G 20 0 (aEnt 1 [aI t]) [] S (k + 0) Q := by
  refine es_rg (fun hg1 => ?_)
  refine es_s0 1 (pc' := 1) (ls' := [some (aI t)]) (st' := [aI t]) (S' := S) rfl ?_
  refine es_if rfl 9 rfl (by assumption) (fun (g1 : t < (0 : Int)) => ?_) (fun (g1 : ¬ (t < (0 : Int))) => ?_)
  · refine es_throw rfl ?_
    first | exact h1 (by omega) | exact h0 (by omega)
  · refine es_s0 2 (pc' := 6) (ls' := [some (aI t)]) (st' := [aI (4 : Int), aI t]) (S' := S) rfl ?_
    refine es_icmp rfl 19 rfl (by assumption) ⟨by decide, by decide⟩ (fun (g6 : t < (4 : Int)) => ?_) (fun (g6 : ¬ (t < (4 : Int))) => ?_)
    · refine es_vret rfl ?_
      first | exact h1 (by omega) | exact h0 (by omega)
    · refine es_throw rfl ?_
      first | exact h1 (by omega) | exact h0 (by omega)
theorem m21 {G : Gw} {S : Sg} {k : Nat} {Q : AQ} {i x y t : Int} (hi : 0 ≤ i ∧ i < 60) (hx : r64 x) (hy : r64 y) (ht : r32 t) (h1 : S 1 i 2 = x ∧ S 1 i 3 = y ∧ S 1 i 4 = t → Q (.inl (some (aI 1))) S) (h0 : ¬ (S 1 i 2 = x ∧ S 1 i 3 = y ∧ S 1 i 4 = t) → Q (.inl (some (aI 0))) S) : Es G 21 0 (aEnt 6 [aR 1 i, aL x, aL y, aI t]) [] S (k + 0) Q := by
  refine es_rg (fun hg1 => ?_)
  refine es_sg 3 (p := 0 ≤ i ∧ i < 60) (pc' := 5) (ls' := [some (aR 1 i), some (aL x), none, some (aL y), none, some (aI t)]) (st' := [aL x, aL (S 1 i 2)]) (S' := S) rfl (by omega) ?_
  refine es_lif rfl rfl 31 rfl (rgL hg1 (t := 1) (i := i) (q := (2 : Int)) (by omega : 0 ≤ i ∧ i < 60) (by omega) rfl) (by assumption) (fun (g5 : ¬ (S 1 i 2) = x) => ?_) (fun (g5 : ¬ (¬ (S 1 i 2) = x)) => ?_)
  · refine es_s0 1 (pc' := 32) (ls' := [some (aR 1 i), some (aL x), none, some (aL y), none, some (aI t)]) (st' := [aI (0 : Int)]) (S' := S) rfl ?_
    refine es_iret rfl rfl rfl (Or.inr ⟨rfl, (by decide)⟩) ?_
    first | exact h1 (by omega) | exact h0 (by omega)
  · refine es_sg 3 (p := 0 ≤ i ∧ i < 60) (pc' := 14) (ls' := [some (aR 1 i), some (aL x), none, some (aL y), none, some (aI t)]) (st' := [aL y, aL (S 1 i 3)]) (S' := S) rfl (by omega) ?_
    refine es_lif rfl rfl 31 rfl (rgL hg1 (t := 1) (i := i) (q := (3 : Int)) (by omega : 0 ≤ i ∧ i < 60) (by omega) rfl) (by assumption) (fun (g14 : ¬ (S 1 i 3) = y) => ?_) (fun (g14 : ¬ (¬ (S 1 i 3) = y)) => ?_)
    · refine es_s0 1 (pc' := 32) (ls' := [some (aR 1 i), some (aL x), none, some (aL y), none, some (aI t)]) (st' := [aI (0 : Int)]) (S' := S) rfl ?_
      refine es_iret rfl rfl rfl (Or.inr ⟨rfl, (by decide)⟩) ?_
      first | exact h1 (by omega) | exact h0 (by omega)
    · refine es_sg 3 (p := 0 ≤ i ∧ i < 60) (pc' := 24) (ls' := [some (aR 1 i), some (aL x), none, some (aL y), none, some (aI t)]) (st' := [aI t, aI (S 1 i 4)]) (S' := S) rfl (by omega) ?_
      refine es_icmp rfl 31 rfl (rgI hg1 (t := 1) (i := i) (q := (4 : Int)) (by omega : 0 ≤ i ∧ i < 60) (by omega) rfl) (by assumption) (fun (g24 : ¬ (S 1 i 4) = t) => ?_) (fun (g24 : ¬ (¬ (S 1 i 4) = t)) => ?_)
      · refine es_s0 1 (pc' := 32) (ls' := [some (aR 1 i), some (aL x), none, some (aL y), none, some (aI t)]) (st' := [aI (0 : Int)]) (S' := S) rfl ?_
        refine es_iret rfl rfl rfl (Or.inr ⟨rfl, (by decide)⟩) ?_
        first | exact h1 (by omega) | exact h0 (by omega)
      · refine es_s0 2 (pc' := 32) (ls' := [some (aR 1 i), some (aL x), none, some (aL y), none, some (aI t)]) (st' := [aI (1 : Int)]) (S' := S) rfl ?_
        refine es_iret rfl rfl rfl (Or.inr ⟨rfl, (by decide)⟩) ?_
        first | exact h1 (by omega) | exact h0 (by omega)
/-- a part is laid -/
def fMv (S : Sg) (i x y t : Int) : Sg := su (su (su S 1 i 2 x) 1 i 3 y) 1 i 4 t
theorem m22 {G : Gw} {S : Sg} {k : Nat} {Q : AQ} {i x y t : Int} (hi : 0 ≤ i ∧ i < 60) (hx : r64 x) (hy : r64 y) (ht : r32 t) (h1 : ¬ (S 1 i 2 = x ∧ S 1 i 3 = y ∧ S 1 i 4 = t) → Q (.inl (some (aI 1))) (fMv S i x y t)) (h0 : S 1 i 2 = x ∧ S 1 i 3 = y ∧ S 1 i 4 = t → Q (.inl (some (aI 0))) (fMv S i x y t)) : Es G 22 0 (aEnt 7 [aR 1 i, aL x, aL y, aI t]) [] S (k + 1) Q := by
  refine es_rg (fun hg1 => ?_)
  refine es_s0 4 (pc' := 5) (ls' := [some (aR 1 i), some (aL x), none, some (aL y), none, some (aI t), none]) (st' := [aI t, aL y, aL x, aR 1 i]) (S' := S) rfl ?_
  refine es_callV rfl rfl 1 i [aL x, aL y, aI t] [] rfl rfl rfl (show 0 ≤ i ∧ i < 60 from (by omega)) (Nat.le_of_ble_eq_true rfl) (Nat.le_of_ble_eq_true rfl) (Nat.le_of_ble_eq_true rfl) ?_
  refine m21 (i := i) (x := x) (y := y) (t := t) (by omega) (by assumption) (by assumption) (by assumption) (fun hc => ?_) (fun hc => ?_)
  · show Es G 22 8 [some (aR 1 i), some (aL x), none, some (aL y), none, some (aI t), none] [aI (1 : Int)] S _ _
    refine es_if rfl 15 rfl ⟨by decide, by decide⟩ (fun (g8 : ¬ (1 : Int) = (0 : Int)) => ?_) (fun (g8 : ¬ (¬ (1 : Int) = (0 : Int))) => absurd g8 (by decide))
    refine es_sg 5 (p := (0 ≤ i ∧ i < 60) ∧ (r64 x)) (pc' := 23) (ls' := [some (aR 1 i), some (aL x), none, some (aL y), none, some (aI t), some (aI (0 : Int))]) (st' := []) (S' := su S 1 i 2 x) rfl ⟨(by omega), (by assumption)⟩ ?_
    refine es_rg (fun hg2 => ?_)
    refine es_sg 3 (p := (0 ≤ i ∧ i < 60) ∧ (r64 y)) (pc' := 28) (ls' := [some (aR 1 i), some (aL x), none, some (aL y), none, some (aI t), some (aI (0 : Int))]) (st' := []) (S' := su (su S 1 i 2 x) 1 i 3 y) rfl ⟨(by omega), (by assumption)⟩ ?_
    refine es_rg (fun hg3 => ?_)
    refine es_sg 3 (p := (0 ≤ i ∧ i < 60) ∧ (r32 t)) (pc' := 34) (ls' := [some (aR 1 i), some (aL x), none, some (aL y), none, some (aI t), some (aI (0 : Int))]) (st' := []) (S' := su (su (su S 1 i 2 x) 1 i 3 y) 1 i 4 t) rfl ⟨(by omega), (by assumption)⟩ ?_
    refine es_rg (fun hg4 => ?_)
    refine es_s0 1 (pc' := 36) (ls' := [some (aR 1 i), some (aL x), none, some (aL y), none, some (aI t), some (aI (0 : Int))]) (st' := [aI (0 : Int)]) (S' := su (su (su S 1 i 2 x) 1 i 3 y) 1 i 4 t) rfl ?_
    refine es_iret rfl rfl rfl (Or.inr ⟨rfl, (by decide)⟩) ?_
    first | exact h1 (by omega) | exact h0 (by omega)
  · show Es G 22 8 [some (aR 1 i), some (aL x), none, some (aL y), none, some (aI t), none] [aI (0 : Int)] S _ _
    refine es_if rfl 15 rfl ⟨by decide, by decide⟩ (fun (g8 : ¬ (0 : Int) = (0 : Int)) => absurd g8 (by decide)) (fun (g8 : ¬ (¬ (0 : Int) = (0 : Int))) => ?_)
    refine es_sg 6 (p := (0 ≤ i ∧ i < 60) ∧ (r64 x)) (pc' := 23) (ls' := [some (aR 1 i), some (aL x), none, some (aL y), none, some (aI t), some (aI (1 : Int))]) (st' := []) (S' := su S 1 i 2 x) rfl ⟨(by omega), (by assumption)⟩ ?_
    refine es_rg (fun hg5 => ?_)
    refine es_sg 3 (p := (0 ≤ i ∧ i < 60) ∧ (r64 y)) (pc' := 28) (ls' := [some (aR 1 i), some (aL x), none, some (aL y), none, some (aI t), some (aI (1 : Int))]) (st' := []) (S' := su (su S 1 i 2 x) 1 i 3 y) rfl ⟨(by omega), (by assumption)⟩ ?_
    refine es_rg (fun hg6 => ?_)
    refine es_sg 3 (p := (0 ≤ i ∧ i < 60) ∧ (r32 t)) (pc' := 34) (ls' := [some (aR 1 i), some (aL x), none, some (aL y), none, some (aI t), some (aI (1 : Int))]) (st' := []) (S' := su (su (su S 1 i 2 x) 1 i 3 y) 1 i 4 t) rfl ⟨(by omega), (by assumption)⟩ ?_
    refine es_rg (fun hg7 => ?_)
    refine es_s0 1 (pc' := 36) (ls' := [some (aR 1 i), some (aL x), none, some (aL y), none, some (aI t), some (aI (1 : Int))]) (st' := [aI (1 : Int)]) (S' := su (su (su S 1 i 2 x) 1 i 3 y) 1 i 4 t) rfl ?_
    refine es_iret rfl rfl rfl (Or.inr ⟨rfl, (by decide)⟩) ?_
    first | exact h1 (by omega) | exact h0 (by omega)
theorem m33 {G : Gw} {S : Sg} {k : Nat} {Q : AQ} {n : Int} (hn : r32 n) (h1 : 0 ≤ n ∧ n < S 0 0 6 → Q (.inl (some (aI 1))) S) (h0 : ¬ (0 ≤ n ∧ n < S 0 0 6) → Q (.inl (some (aI 0))) S) : Es G 33 0 (aEnt 2 [aR 0 (0 : Int), aI n]) [] S (k + 0) Q := by
  refine es_rg (fun hg1 => ?_)
  refine es_s0 1 (pc' := 1) (ls' := [some (aR 0 (0 : Int)), some (aI n)]) (st' := [aI n]) (S' := S) rfl ?_
  refine es_if rfl 16 rfl (by assumption) (fun (g1 : n < (0 : Int)) => ?_) (fun (g1 : ¬ (n < (0 : Int))) => ?_)
  · refine es_s0 1 (pc' := 17) (ls' := [some (aR 0 (0 : Int)), some (aI n)]) (st' := [aI (0 : Int)]) (S' := S) rfl ?_
    refine es_iret rfl rfl rfl (Or.inr ⟨rfl, (by decide)⟩) ?_
    first | exact h1 (by omega) | exact h0 (by omega)
  · refine es_sg 3 (p := (0 : Int) = 0) (pc' := 9) (ls' := [some (aR 0 (0 : Int)), some (aI n)]) (st' := [aI (S 0 0 6), aI n]) (S' := S) rfl rfl ?_
    refine es_icmp rfl 16 rfl (by assumption) (rgI hg1 (t := 0) (i := (0 : Int)) (q := (6 : Int)) (by omega : 0 ≤ (0 : Int) ∧ (0 : Int) < 1) (by omega) rfl) (fun (g9 : (S 0 0 6) ≤ n) => ?_) (fun (g9 : ¬ ((S 0 0 6) ≤ n)) => ?_)
    · refine es_s0 1 (pc' := 17) (ls' := [some (aR 0 (0 : Int)), some (aI n)]) (st' := [aI (0 : Int)]) (S' := S) rfl ?_
      refine es_iret rfl rfl rfl (Or.inr ⟨rfl, (by decide)⟩) ?_
      first | exact h1 (by omega) | exact h0 (by omega)
    · refine es_s0 2 (pc' := 17) (ls' := [some (aR 0 (0 : Int)), some (aI n)]) (st' := [aI (1 : Int)]) (S' := S) rfl ?_
      refine es_iret rfl rfl rfl (Or.inr ⟨rfl, (by decide)⟩) ?_
      first | exact h1 (by omega) | exact h0 (by omega)
theorem m34 {G : Gw} {S : Sg} {k : Nat} {Q : AQ} {n : Int} (hn : r32 n) (h1 : 0 ≤ n ∧ n < S 0 0 6 → Q (.inl none) S) (h0 : ¬ (0 ≤ n ∧ n < S 0 0 6) → Q (.inr 1) S) : Es G 34 0 (aEnt 2 [aR 0 (0 : Int), aI n]) [] S (k + 1) Q := by
  refine es_rg (fun hg1 => ?_)
  refine es_s0 2 (pc' := 2) (ls' := [some (aR 0 (0 : Int)), some (aI n)]) (st' := [aI n, aR 0 (0 : Int)]) (S' := S) rfl ?_
  refine es_callV rfl rfl 0 (0 : Int) [aI n] [] rfl rfl rfl rfl (Nat.le_of_ble_eq_true rfl) (Nat.le_of_ble_eq_true rfl) (Nat.le_of_ble_eq_true rfl) ?_
  refine m33 (by assumption) (fun hc => ?_) (fun hc => ?_)
  · show Es G 34 5 [some (aR 0 (0 : Int)), some (aI n)] [aI (1 : Int)] S _ _
    refine es_if rfl 18 rfl ⟨by decide, by decide⟩ (fun (g5 : ¬ (1 : Int) = (0 : Int)) => ?_) (fun (g5 : ¬ (¬ (1 : Int) = (0 : Int))) => absurd g5 (by decide))
    refine es_vret rfl ?_
    first | exact h1 (by omega) | exact h0 (by omega)
  · show Es G 34 5 [some (aR 0 (0 : Int)), some (aI n)] [aI (0 : Int)] S _ _
    refine es_if rfl 18 rfl ⟨by decide, by decide⟩ (fun (g5 : ¬ (0 : Int) = (0 : Int)) => absurd g5 (by decide)) (fun (g5 : ¬ (¬ (0 : Int) = (0 : Int))) => ?_)
    refine es_throw rfl ?_
    first | exact h1 (by omega) | exact h0 (by omega)
theorem m35 {G : Gw} {S : Sg} {k : Nat} {Q : AQ} {c : Int} (hi : 0 ≤ c ∧ c < 20) (h1 : ¬ S 2 c 0 = -1 → Q (.inl (some (aI 1))) S) (h0 : ¬ (¬ S 2 c 0 = -1) → Q (.inl (some (aI 0))) S) : Es G 35 0 (aEnt 1 [aR 2 c]) [] S (k + 0) Q := by
  refine es_rg (fun hg1 => ?_)
  refine es_sg 3 (p := 0 ≤ c ∧ c < 20) (pc' := 5) (ls' := [some (aR 2 c)]) (st' := [aI (-1 : Int), aI (S 2 c 0)]) (S' := S) rfl (by omega) ?_
  refine es_icmp rfl 12 rfl (rgI hg1 (t := 2) (i := c) (q := (0 : Int)) (by omega : 0 ≤ c ∧ c < 20) (by omega) rfl) ⟨by decide, by decide⟩ (fun (g5 : (S 2 c 0) = (-1 : Int)) => ?_) (fun (g5 : ¬ ((S 2 c 0) = (-1 : Int))) => ?_)
  · refine es_s0 1 (pc' := 13) (ls' := [some (aR 2 c)]) (st' := [aI (0 : Int)]) (S' := S) rfl ?_
    refine es_iret rfl rfl rfl (Or.inr ⟨rfl, (by decide)⟩) ?_
    first | exact h1 (by omega) | exact h0 (by omega)
  · refine es_s0 2 (pc' := 13) (ls' := [some (aR 2 c)]) (st' := [aI (1 : Int)]) (S' := S) rfl ?_
    refine es_iret rfl rfl rfl (Or.inr ⟨rfl, (by decide)⟩) ?_
    first | exact h1 (by omega) | exact h0 (by omega)
theorem m81 {G : Gw} {S : Sg} {k : Nat} {Q : AQ} {n : Int} (hn : r32 n) (h1 : 0 ≤ n ∧ n < S 0 0 7 → Q (.inl none) S) (h0 : ¬ (0 ≤ n ∧ n < S 0 0 7) → Q (.inr 1) S) : Es G 81 0 (aEnt 2 [aR 0 (0 : Int), aI n]) [] S (k + 0) Q := by
  refine es_rg (fun hg1 => ?_)
  refine es_s0 1 (pc' := 1) (ls' := [some (aR 0 (0 : Int)), some (aI n)]) (st' := [aI n]) (S' := S) rfl ?_
  refine es_if rfl 12 rfl (by assumption) (fun (g1 : n < (0 : Int)) => ?_) (fun (g1 : ¬ (n < (0 : Int))) => ?_)
  · refine es_throw rfl ?_
    first | exact h1 (by omega) | exact h0 (by omega)
  · refine es_sg 3 (p := (0 : Int) = 0) (pc' := 9) (ls' := [some (aR 0 (0 : Int)), some (aI n)]) (st' := [aI (S 0 0 7), aI n]) (S' := S) rfl rfl ?_
    refine es_icmp rfl 22 rfl (by assumption) (rgI hg1 (t := 0) (i := (0 : Int)) (q := (7 : Int)) (by omega : 0 ≤ (0 : Int) ∧ (0 : Int) < 1) (by omega) rfl) (fun (g9 : n < (S 0 0 7)) => ?_) (fun (g9 : ¬ (n < (S 0 0 7))) => ?_)
    · refine es_vret rfl ?_
      first | exact h1 (by omega) | exact h0 (by omega)
    · refine es_throw rfl ?_
      first | exact h1 (by omega) | exact h0 (by omega)
/-- how wide and how high a part lies -/
def pW (S : Sg) (i : Int) : Int := if S 1 i 4 % 2 = 0 then S 1 i 0 else S 1 i 1
def pH (S : Sg) (i : Int) : Int := if S 1 i 4 % 2 = 0 then S 1 i 1 else S 1 i 0
theorem m43 {G : Gw} {S : Sg} {k : Nat} {Q : AQ} {i : Int} (hi : 0 ≤ i ∧ i < 60) (ht : 0 ≤ S 1 i 4 ∧ S 1 i 4 < 4) (h : Q (.inl (some (aL (S 1 i 2 + pW S i)))) S) : Es G 43 0 (aEnt 1 [aR 1 i]) [] S (k + 0) Q := by
  refine es_rg (fun hg1 => ?_)
  refine es_sg 6 (p := (0 ≤ i ∧ i < 60) ∧ ((0 ≤ i ∧ i < 60) ∧ ((0 ≤ (S 1 i 4) ∧ (S 1 i 4) < 2147483648) ∧ (0 < (2 : Int) ∧ (2 : Int) < 2147483648)))) (pc' := 10) (ls' := [some (aR 1 i)]) (st' := [aI ((S 1 i 4) % 2), aL (S 1 i 2)]) (S' := S) rfl ⟨(by omega), (by omega), (by omega)⟩ ?_
  refine es_if rfl 20 rfl ⟨by omega, by omega⟩ (fun (g10 : ¬ ((S 1 i 4) % 2) = (0 : Int)) => ?_) (fun (g10 : ¬ (¬ ((S 1 i 4) % 2) = (0 : Int))) => ?_)
  · refine es_sg 3 (p := 0 ≤ i ∧ i < 60) (pc' := 25) (ls' := [some (aR 1 i)]) (st' := [aL ((S 1 i 2) + (S 1 i 1))]) (S' := S) rfl (by omega) ?_
    refine es_lret rfl ?_
    first | (have e := h; unfold pW at e; rw [if_pos (by omega)] at e; exact e) | (have e := h; unfold pW at e; rw [if_neg (by omega)] at e; exact e)
  · refine es_sg 4 (p := 0 ≤ i ∧ i < 60) (pc' := 25) (ls' := [some (aR 1 i)]) (st' := [aL ((S 1 i 2) + (S 1 i 0))]) (S' := S) rfl (by omega) ?_
    refine es_lret rfl ?_
    first | (have e := h; unfold pW at e; rw [if_pos (by omega)] at e; exact e) | (have e := h; unfold pW at e; rw [if_neg (by omega)] at e; exact e)
theorem m44 {G : Gw} {S : Sg} {k : Nat} {Q : AQ} {i : Int} (hi : 0 ≤ i ∧ i < 60) (ht : 0 ≤ S 1 i 4 ∧ S 1 i 4 < 4) (h : Q (.inl (some (aL (S 1 i 3 + pH S i)))) S) : Es G 44 0 (aEnt 1 [aR 1 i]) [] S (k + 0) Q := by
  refine es_rg (fun hg1 => ?_)
  refine es_sg 6 (p := (0 ≤ i ∧ i < 60) ∧ ((0 ≤ i ∧ i < 60) ∧ ((0 ≤ (S 1 i 4) ∧ (S 1 i 4) < 2147483648) ∧ (0 < (2 : Int) ∧ (2 : Int) < 2147483648)))) (pc' := 10) (ls' := [some (aR 1 i)]) (st' := [aI ((S 1 i 4) % 2), aL (S 1 i 3)]) (S' := S) rfl ⟨(by omega), (by omega), (by omega)⟩ ?_
  refine es_if rfl 20 rfl ⟨by omega, by omega⟩ (fun (g10 : ¬ ((S 1 i 4) % 2) = (0 : Int)) => ?_) (fun (g10 : ¬ (¬ ((S 1 i 4) % 2) = (0 : Int))) => ?_)
  · refine es_sg 3 (p := 0 ≤ i ∧ i < 60) (pc' := 25) (ls' := [some (aR 1 i)]) (st' := [aL ((S 1 i 3) + (S 1 i 0))]) (S' := S) rfl (by omega) ?_
    refine es_lret rfl ?_
    first | (have e := h; unfold pH at e; rw [if_pos (by omega)] at e; exact e) | (have e := h; unfold pH at e; rw [if_neg (by omega)] at e; exact e)
  · refine es_sg 4 (p := 0 ≤ i ∧ i < 60) (pc' := 25) (ls' := [some (aR 1 i)]) (st' := [aL ((S 1 i 3) + (S 1 i 1))]) (S' := S) rfl (by omega) ?_
    refine es_lret rfl ?_
    first | (have e := h; unfold pH at e; rw [if_pos (by omega)] at e; exact e) | (have e := h; unfold pH at e; rw [if_neg (by omega)] at e; exact e)
