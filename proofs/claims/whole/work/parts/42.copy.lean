/-! THE CLASS: copies, arrays, carrying on -/
theorem m42 {G : Gw} {S : Sg} {k : Nat} {Q : AQ} (hnp : 0 ≤ S 0 0 5 ∧ S 0 0 5 ≤ 60) (hnc : 0 ≤ S 0 0 6 ∧ S 0 0 6 ≤ 20) {c n : Int} (hc : 0 ≤ c ∧ c < 20) (hn : 0 ≤ n ∧ n ≤ 100) (hs : 0 ≤ S 2 c 5 ∧ S 2 c 5 ≤ 20) (h1 : (S 2 c 0 = -1 ∧ S 0 0 6 + n ≤ 20 ∧ S 0 0 5 + n * S 2 c 5 ≤ 60) → Q (.inl (some (aI 1))) S) (h0 : ¬ (S 2 c 0 = -1 ∧ S 0 0 6 + n ≤ 20 ∧ S 0 0 5 + n * S 2 c 5 ≤ 60) → Q (.inl (some (aI 0))) S) : Es G 42 0 (aEnt 4 [aR 0 (0 : Int), aI c, aI n]) [] S (k + 1) Q := by
  have hm1 : 0 ≤ n * S 2 c 5 := Int.mul_nonneg hn.1 hs.1
  have hm2 : n * S 2 c 5 ≤ 100 * 20 := Int.mul_le_mul hn.2 hs.2 hs.1 (by decide)
  refine es_rg (fun hg1 => ?_)
  refine es_sg 6 (p := ((0 : Int) = 0) ∧ (((0 : Int) = 0) ∧ (0 ≤ c ∧ c < 20))) (pc' := 8) (ls' := [some (aR 0 (0 : Int)), some (aI c), some (aI n), some (aR 2 c)]) (st' := [aR 2 c]) (S' := S) rfl ⟨rfl, ⟨rfl, (by omega)⟩⟩ ?_
  refine es_callV rfl rfl 2 c [] [] rfl rfl rfl (show 0 ≤ c ∧ c < 20 from (by omega)) (Nat.le_of_ble_eq_true rfl) (Nat.le_of_ble_eq_true rfl) (Nat.le_of_ble_eq_true rfl) ?_
  refine m35 (c := c) (by omega) (fun hc8 => ?_) (fun hc8 => ?_)
  · show Es G 42 11 [some (aR 0 (0 : Int)), some (aI c), some (aI n), some (aR 2 c)] [aI (1 : Int)] S _ _
    refine es_if rfl 45 rfl ⟨by decide, by decide⟩ (fun (g11 : ¬ (1 : Int) = (0 : Int)) => ?_) (fun (g11 : ¬ (¬ (1 : Int) = (0 : Int))) => absurd g11 (by decide))
    refine es_s0 1 (pc' := 46) (ls' := [some (aR 0 (0 : Int)), some (aI c), some (aI n), some (aR 2 c)]) (st' := [aI (0 : Int)]) (S' := S) rfl ?_
    refine es_iret rfl rfl rfl (Or.inr ⟨rfl, (by decide)⟩) ?_
    first | exact h1 (by omega) | exact h0 (by omega) | (exfalso; omega)
  · show Es G 42 11 [some (aR 0 (0 : Int)), some (aI c), some (aI n), some (aR 2 c)] [aI (0 : Int)] S _ _
    refine es_if rfl 45 rfl ⟨by decide, by decide⟩ (fun (g11 : ¬ (0 : Int) = (0 : Int)) => absurd g11 (by decide)) (fun (g11 : ¬ (¬ (0 : Int) = (0 : Int))) => ?_)
    refine es_sg 5 (p := (0 : Int) = 0) (pc' := 22) (ls' := [some (aR 0 (0 : Int)), some (aI c), some (aI n), some (aR 2 c)]) (st' := [aI (20 : Int), aI ((S 0 0 6) + n)]) (S' := S) rfl rfl ?_
    refine es_icmp rfl 45 rfl ⟨by omega, by omega⟩ ⟨by decide, by decide⟩ (fun (g22 : (20 : Int) < ((S 0 0 6) + n)) => ?_) (fun (g22 : ¬ ((20 : Int) < ((S 0 0 6) + n))) => ?_)
    · refine es_s0 1 (pc' := 46) (ls' := [some (aR 0 (0 : Int)), some (aI c), some (aI n), some (aR 2 c)]) (st' := [aI (0 : Int)]) (S' := S) rfl ?_
      refine es_iret rfl rfl rfl (Or.inr ⟨rfl, (by decide)⟩) ?_
      first | exact h1 (by omega) | exact h0 (by omega) | (exfalso; omega)
    · refine es_sg 8 (p := ((0 : Int) = 0) ∧ (0 ≤ c ∧ c < 20)) (pc' := 38) (ls' := [some (aR 0 (0 : Int)), some (aI c), some (aI n), some (aR 2 c)]) (st' := [aI (60 : Int), aI ((S 0 0 5) + (n * (S 2 c 5)))]) (S' := S) rfl ⟨rfl, (by omega)⟩ ?_
      refine es_icmp rfl 45 rfl ⟨by omega, by omega⟩ ⟨by decide, by decide⟩ (fun (g38 : (60 : Int) < ((S 0 0 5) + (n * (S 2 c 5)))) => ?_) (fun (g38 : ¬ ((60 : Int) < ((S 0 0 5) + (n * (S 2 c 5))))) => ?_)
      · refine es_s0 1 (pc' := 46) (ls' := [some (aR 0 (0 : Int)), some (aI c), some (aI n), some (aR 2 c)]) (st' := [aI (0 : Int)]) (S' := S) rfl ?_
        refine es_iret rfl rfl rfl (Or.inr ⟨rfl, (by decide)⟩) ?_
        first | exact h1 (by omega) | exact h0 (by omega) | (exfalso; omega)
      · refine es_s0 2 (pc' := 46) (ls' := [some (aR 0 (0 : Int)), some (aI c), some (aI n), some (aR 2 c)]) (st' := [aI (1 : Int)]) (S' := S) rfl ?_
        refine es_iret rfl rfl rfl (Or.inr ⟨rfl, (by decide)⟩) ?_
        first | exact h1 (by omega) | exact h0 (by omega) | (exfalso; omega)
theorem m53 {G : Gw} {S : Sg} {k : Nat} {Q : AQ} {A : Sg} (hL : Lk A S) (hA : CI A) {m dx dy t : Int} (hm : (0 ≤ m ∧ m < A 0 0 6) ∧ A 2 m 0 = -1) (hx : -1000000 ≤ dx ∧ dx ≤ 1000000) (hy : -1000000 ≤ dy ∧ dy ≤ 1000000) (ht : 0 ≤ t ∧ t < 4) (h1 : 20 ≤ S 0 0 6 → Q (.inl (some (aI (-1)))) S) (h0 : S 0 0 6 < 20 → ∀ S' : Sg, Lk (acF A m dx dy t) S' → Fr S S' → Q (.inl (some (aI (S 0 0 6)))) S') : Es G 53 0 (aEnt 9 [aR 0 (0 : Int), aI m, aL dx, aL dy, aI t]) [] S (k + 5) Q := by
  have hS := hA.lk hL
  have hnp := hS.1.1
  have hnc := hS.1.2.1
  have e05 : S 0 0 5 = A 0 0 5 := by rw [hL 0 (by decide)]
  have e06 : S 0 0 6 = A 0 0 6 := by rw [hL 0 (by decide)]
  refine es_rg (fun hg1 => ?_)
  refine es_s0 1 (pc' := 1) (ls' := [some (aR 0 (0 : Int)), some (aI m), some (aL dx), none, some (aL dy), none, some (aI t), none, none]) (st' := [aR 0 (0 : Int)]) (S' := S) rfl ?_
  refine es_callV rfl rfl 0 (0 : Int) [] [] rfl rfl rfl rfl (Nat.le_of_ble_eq_true rfl) (Nat.le_of_ble_eq_true rfl) (Nat.le_of_ble_eq_true rfl) ?_
  refine m29 hnc (fun hc1 => ?_) (fun hc1 => ?_)
  · show Es G 53 4 [some (aR 0 (0 : Int)), some (aI m), some (aL dx), none, some (aL dy), none, some (aI t), none, none] [aI (-1 : Int)] S _ _
    refine es_s0 3 (pc' := 9) (ls' := [some (aR 0 (0 : Int)), some (aI m), some (aL dx), none, some (aL dy), none, some (aI t), some (aI (-1 : Int)), none]) (st' := [aI (-1 : Int), aI (-1 : Int)]) (S' := S) rfl ?_
    refine es_icmp rfl 14 rfl ⟨by decide, by decide⟩ ⟨by decide, by decide⟩ (fun (g9 : ¬ (-1 : Int) = (-1 : Int)) => absurd g9 (by decide)) (fun (g9 : ¬ (¬ (-1 : Int) = (-1 : Int))) => ?_)
    refine es_s0 1 (pc' := 13) (ls' := [some (aR 0 (0 : Int)), some (aI m), some (aL dx), none, some (aL dy), none, some (aI t), some (aI (-1 : Int)), none]) (st' := [aI (-1 : Int)]) (S' := S) rfl ?_
    refine es_iret rfl rfl rfl (Or.inl rfl) ?_
    first | exact h1 (by omega) | (exfalso; omega)
  · show Es G 53 4 [some (aR 0 (0 : Int)), some (aI m), some (aL dx), none, some (aL dy), none, some (aI t), none, none] [aI (S 0 0 6)] (su S 0 0 6 (S 0 0 6 + 1)) _ _
    refine es_rg (fun hg2 => ?_)
    refine es_s0 3 (pc' := 9) (ls' := [some (aR 0 (0 : Int)), some (aI m), some (aL dx), none, some (aL dy), none, some (aI t), some (aI (S 0 0 6)), none]) (st' := [aI (-1 : Int), aI (S 0 0 6)]) (S' := su S 0 0 6 (S 0 0 6 + 1)) rfl ?_
    refine es_icmp rfl 14 rfl (rgI hg1 (t := 0) (i := (0 : Int)) (q := (6 : Int)) (by omega : 0 ≤ (0 : Int) ∧ (0 : Int) < 1) (by omega) rfl) ⟨by decide, by decide⟩ (fun (g9 : ¬ (S 0 0 6) = (-1 : Int)) => ?_) (fun (g9 : ¬ (¬ (S 0 0 6) = (-1 : Int))) => ?_)
    · refine es_sg 8 (p := ((0 : Int) = 0) ∧ ((((0 : Int) = 0) ∧ (0 ≤ (S 0 0 6) ∧ (S 0 0 6) < 20)) ∧ ((0 ≤ (S 0 0 6) ∧ (S 0 0 6) < 20) ∧ (r32 m)))) (pc' := 29) (ls' := [some (aR 0 (0 : Int)), some (aI m), some (aL dx), none, some (aL dy), none, some (aI t), some (aI (S 0 0 6)), some (aR 2 (S 0 0 6))]) (st' := []) (S' := su (su S 0 0 6 (S 0 0 6 + 1)) 2 (S 0 0 6) 0 m) rfl ⟨rfl, ⟨rfl, (by omega)⟩, ⟨(by omega), ⟨by omega, by omega⟩⟩⟩ ?_
      refine es_rg (fun hg3 => ?_)
      refine es_sg 3 (p := (0 ≤ (S 0 0 6) ∧ (S 0 0 6) < 20) ∧ (r64 dx)) (pc' := 35) (ls' := [some (aR 0 (0 : Int)), some (aI m), some (aL dx), none, some (aL dy), none, some (aI t), some (aI (S 0 0 6)), some (aR 2 (S 0 0 6))]) (st' := []) (S' := su (su (su S 0 0 6 (S 0 0 6 + 1)) 2 (S 0 0 6) 0 m) 2 (S 0 0 6) 1 dx) rfl ⟨(by omega), ⟨by omega, by omega⟩⟩ ?_
      refine es_rg (fun hg4 => ?_)
      refine es_sg 3 (p := (0 ≤ (S 0 0 6) ∧ (S 0 0 6) < 20) ∧ (r64 dy)) (pc' := 42) (ls' := [some (aR 0 (0 : Int)), some (aI m), some (aL dx), none, some (aL dy), none, some (aI t), some (aI (S 0 0 6)), some (aR 2 (S 0 0 6))]) (st' := []) (S' := su (su (su (su S 0 0 6 (S 0 0 6 + 1)) 2 (S 0 0 6) 0 m) 2 (S 0 0 6) 1 dx) 2 (S 0 0 6) 2 dy) rfl ⟨(by omega), ⟨by omega, by omega⟩⟩ ?_
      refine es_rg (fun hg5 => ?_)
      refine es_sg 3 (p := (0 ≤ (S 0 0 6) ∧ (S 0 0 6) < 20) ∧ (r32 t)) (pc' := 49) (ls' := [some (aR 0 (0 : Int)), some (aI m), some (aL dx), none, some (aL dy), none, some (aI t), some (aI (S 0 0 6)), some (aR 2 (S 0 0 6))]) (st' := []) (S' := su (su (su (su (su S 0 0 6 (S 0 0 6 + 1)) 2 (S 0 0 6) 0 m) 2 (S 0 0 6) 1 dx) 2 (S 0 0 6) 2 dy) 2 (S 0 0 6) 3 t) rfl ⟨(by omega), ⟨by omega, by omega⟩⟩ ?_
      refine es_rg (fun hg6 => ?_)
      refine es_s0 2 (pc' := 52) (ls' := [some (aR 0 (0 : Int)), some (aI m), some (aL dx), none, some (aL dy), none, some (aI t), some (aI (S 0 0 6)), some (aR 2 (S 0 0 6))]) (st' := [aI (S 0 0 6), aR 0 (0 : Int)]) (S' := su (su (su (su (su S 0 0 6 (S 0 0 6 + 1)) 2 (S 0 0 6) 0 m) 2 (S 0 0 6) 1 dx) 2 (S 0 0 6) 2 dy) 2 (S 0 0 6) 3 t) rfl ?_
      refine es_callV rfl rfl 0 (0 : Int) [aI (S 0 0 6)] [] rfl rfl rfl rfl (Nat.le_of_ble_eq_true rfl) (Nat.le_of_ble_eq_true rfl) (Nat.le_of_ble_eq_true rfl) ?_
      refine m52 (A := newCh A m dx dy t) (c := S 0 0 6) ?_ (hA.nch (by omega) (Or.inr hm) hx hy ht) (by rw [e06]; exact (show 0 ≤ A 0 0 6 ∧ A 0 0 6 < A 0 0 6 + 1 from by omega)) (fun S1 k1 k2 => ?_)
      · exact newCh_lk hL
      · show Es G 53 55 [some (aR 0 (0 : Int)), some (aI m), some (aL dx), none, some (aL dy), none, some (aI t), some (aI (S 0 0 6)), some (aR 2 (S 0 0 6))] [aI ((ctF 20 (newCh A m dx dy t) (S 0 0 6) 0 0).2)] S1 _ _
        refine es_rg (fun hg7 => ?_)
        refine es_s0 2 (pc' := 58) (ls' := [some (aR 0 (0 : Int)), some (aI m), some (aL dx), none, some (aL dy), none, some (aI t), some (aI (S 0 0 6)), some (aR 2 (S 0 0 6))]) (st' := [aI (S 0 0 6)]) (S' := S1) rfl ?_
        refine es_iret rfl rfl rfl (Or.inl rfl) ?_
        refine h0 (by omega) S1 ?_ (fun t ht => ?_)
        · unfold acF; rw [if_pos (by omega)]; rw [e06] at k1; exact k1
        · rw [k2 t ht, su_tt _ (by omega), su_tt _ (by omega), su_tt _ (by omega), su_tt _ (by omega), su_tt _ (by omega)]
    · refine es_s0 1 (pc' := 13) (ls' := [some (aR 0 (0 : Int)), some (aI m), some (aL dx), none, some (aL dy), none, some (aI t), some (aI (S 0 0 6)), none]) (st' := [aI (-1 : Int)]) (S' := su S 0 0 6 (S 0 0 6 + 1)) rfl ?_
      refine es_iret rfl rfl rfl (Or.inl rfl) ?_
      first | exact h1 (by omega) | (exfalso; omega)
theorem m54 {G : Gw} {S : Sg} {k : Nat} {Q : AQ} {A : Sg} (hL : Lk A S) (hA : CI A) {m dx dy t : Int} (hm : r32 m) (hx : r64 dx) (hy : r64 dy) (ht : r32 t) (t1 : ¬ (0 ≤ m ∧ m < S 0 0 6) → Q (.inr 1) S) (t2 : (0 ≤ m ∧ m < S 0 0 6) ∧ ¬ (((-1000000 ≤ dx ∧ dx ≤ 1000000) ∧ (-1000000 ≤ dy ∧ dy ≤ 1000000)) ∧ (0 ≤ t ∧ t < 4)) → Q (.inr 0) S) (h1 : ((0 ≤ m ∧ m < S 0 0 6) ∧ ((-1000000 ≤ dx ∧ dx ≤ 1000000) ∧ (-1000000 ≤ dy ∧ dy ≤ 1000000)) ∧ (0 ≤ t ∧ t < 4)) ∧ ¬ (S 2 m 0 = -1 ∧ S 0 0 6 + 1 ≤ 20 ∧ S 0 0 5 + 1 * S 2 m 5 ≤ 60) → Q (.inl (some (aI (-1)))) S) (h0 : ((0 ≤ m ∧ m < S 0 0 6) ∧ ((-1000000 ≤ dx ∧ dx ≤ 1000000) ∧ (-1000000 ≤ dy ∧ dy ≤ 1000000)) ∧ (0 ≤ t ∧ t < 4)) ∧ (S 2 m 0 = -1 ∧ S 0 0 6 + 1 ≤ 20 ∧ S 0 0 5 + 1 * S 2 m 5 ≤ 60) → ∀ S' : Sg, Lk (acF A m dx dy t) S' → Fr S S' → Q (.inl (some (aI (S 0 0 6)))) S') : Es G 54 0 (aEnt 7 [aR 0 (0 : Int), aI m, aL dx, aL dy, aI t]) [] S (k + 6) Q := by
  have hS := hA.lk hL
  have hnp := hS.1.1
  have hnc := hS.1.2.1
  have e05 : S 0 0 5 = A 0 0 5 := by rw [hL 0 (by decide)]
  have e06 : S 0 0 6 = A 0 0 6 := by rw [hL 0 (by decide)]
  refine es_rg (fun hg1 => ?_)
  refine es_s0 2 (pc' := 2) (ls' := [some (aR 0 (0 : Int)), some (aI m), some (aL dx), none, some (aL dy), none, some (aI t)]) (st' := [aI m, aR 0 (0 : Int)]) (S' := S) rfl ?_
  refine es_callV rfl rfl 0 (0 : Int) [aI m] [] rfl rfl rfl rfl (Nat.le_of_ble_eq_true rfl) (Nat.le_of_ble_eq_true rfl) (Nat.le_of_ble_eq_true rfl) ?_
  refine m34 (n := m) (by assumption) (fun hc2 => ?_) (fun hc2 => ⟨⟨_, rfl, rfl, rfl⟩, ?_⟩)
  · show Es G 54 5 [some (aR 0 (0 : Int)), some (aI m), some (aL dx), none, some (aL dy), none, some (aI t)] [] S _ _
    refine es_s0 2 (pc' := 8) (ls' := [some (aR 0 (0 : Int)), some (aI m), some (aL dx), none, some (aL dy), none, some (aI t)]) (st' := [aL dy, aL dx]) (S' := S) rfl ?_
    refine es_callS rfl rfl [aL dx, aL dy] [] rfl rfl (Nat.le_of_ble_eq_true rfl) (Nat.le_of_ble_eq_true rfl) (Nat.le_of_ble_eq_true rfl) ?_
    refine m19 (by assumption) (by assumption) (fun hc8 => ?_) (fun hc8 => ⟨⟨_, rfl, rfl, rfl⟩, ?_⟩)
    · show Es G 54 11 [some (aR 0 (0 : Int)), some (aI m), some (aL dx), none, some (aL dy), none, some (aI t)] [] S _ _
      refine es_s0 1 (pc' := 13) (ls' := [some (aR 0 (0 : Int)), some (aI m), some (aL dx), none, some (aL dy), none, some (aI t)]) (st' := [aI t]) (S' := S) rfl ?_
      refine es_callS rfl rfl [aI t] [] rfl rfl (Nat.le_of_ble_eq_true rfl) (Nat.le_of_ble_eq_true rfl) (Nat.le_of_ble_eq_true rfl) ?_
      refine m20 (by assumption) (fun hc13 => ?_) (fun hc13 => ⟨⟨_, rfl, rfl, rfl⟩, ?_⟩)
      · show Es G 54 16 [some (aR 0 (0 : Int)), some (aI m), some (aL dx), none, some (aL dy), none, some (aI t)] [] S _ _
        refine es_s0 3 (pc' := 19) (ls' := [some (aR 0 (0 : Int)), some (aI m), some (aL dx), none, some (aL dy), none, some (aI t)]) (st' := [aI (1 : Int), aI m, aR 0 (0 : Int)]) (S' := S) rfl ?_
        refine es_callV rfl rfl 0 (0 : Int) [aI m, aI (1 : Int)] [] rfl rfl rfl rfl (Nat.le_of_ble_eq_true rfl) (Nat.le_of_ble_eq_true rfl) (Nat.le_of_ble_eq_true rfl) ?_
        refine m42 hnp hnc (c := m) (n := (1 : Int)) (by omega) (by omega) (by have q := hS.size (c := m) (by omega); exact q) (fun hc19 => ?_) (fun hc19 => ?_)
        · show Es G 54 22 [some (aR 0 (0 : Int)), some (aI m), some (aL dx), none, some (aL dy), none, some (aI t)] [aI (1 : Int)] S _ _
          refine es_if rfl 27 rfl ⟨by decide, by decide⟩ (fun (g22 : ¬ (1 : Int) = (0 : Int)) => ?_) (fun (g22 : ¬ (¬ (1 : Int) = (0 : Int))) => absurd g22 (by decide))
          refine es_s0 5 (pc' := 34) (ls' := [some (aR 0 (0 : Int)), some (aI m), some (aL dx), none, some (aL dy), none, some (aI t)]) (st' := [aI t, aL dy, aL dx, aI m, aR 0 (0 : Int)]) (S' := S) rfl ?_
          refine es_callV rfl rfl 0 (0 : Int) [aI m, aL dx, aL dy, aI t] [] rfl rfl rfl rfl (Nat.le_of_ble_eq_true rfl) (Nat.le_of_ble_eq_true rfl) (Nat.le_of_ble_eq_true rfl) ?_
          refine m53 (A := A) hL hA (m := m) (dx := dx) (dy := dy) (t := t) ⟨by omega, by have q := hL 2 (by decide); rw [← q]; omega⟩ (by omega) (by omega) (by omega) (fun hc34 => ?_) (fun hc34 S1 k1 k2 => ?_)
          · show Es G 54 37 [some (aR 0 (0 : Int)), some (aI m), some (aL dx), none, some (aL dy), none, some (aI t)] [aI (-1 : Int)] S _ _
            refine es_iret rfl rfl rfl (Or.inl rfl) ?_
            first | exact h1 (by omega) | (exfalso; omega)
          · show Es G 54 37 [some (aR 0 (0 : Int)), some (aI m), some (aL dx), none, some (aL dy), none, some (aI t)] [aI (S 0 0 6)] S1 _ _
            refine es_rg (fun hg2 => ?_)
            refine es_iret rfl rfl rfl (Or.inl rfl) ?_
            exact h0 (by omega) S1 k1 k2
        · show Es G 54 22 [some (aR 0 (0 : Int)), some (aI m), some (aL dx), none, some (aL dy), none, some (aI t)] [aI (0 : Int)] S _ _
          refine es_if rfl 27 rfl ⟨by decide, by decide⟩ (fun (g22 : ¬ (0 : Int) = (0 : Int)) => absurd g22 (by decide)) (fun (g22 : ¬ (¬ (0 : Int) = (0 : Int))) => ?_)
          refine es_s0 1 (pc' := 26) (ls' := [some (aR 0 (0 : Int)), some (aI m), some (aL dx), none, some (aL dy), none, some (aI t)]) (st' := [aI (-1 : Int)]) (S' := S) rfl ?_
          refine es_iret rfl rfl rfl (Or.inl rfl) ?_
          first | exact h1 (by omega) | (exfalso; omega)
      · first | exact t1 (by omega) | exact t2 (by omega)
    · first | exact t1 (by omega) | exact t2 (by omega)
  · first | exact t1 (by omega) | exact t2 (by omega)
theorem m68_l {G : Gw} {k : Nat} {Q : AQ} {m : Int} (hm : r32 m) : ∀ (n : Nat) (B S : Sg) (c q : Int) (_ : Lk B S) (_ : CI B) (_ : c + n = B 0 0 6) (_ : 0 ≤ c) (_ : 0 ≤ q ∧ q ≤ 20 * c) (_ : ∀ S' : Sg, Lk (crF n B m c q).1 S' → Fr S S' → Q (.inl (some (aI (crF n B m c q).2))) S'), Es G 68 28 [some (aR 0 0), some (aI m), some (aI q), some (aI c)] [] S (k + 5) Q := by
  intro n
  induction n using Nat.strongRecOn with
  | _ n ih =>
    intro B S c q hB hCB hn hc hq h
    have hn2 := hCB.1.2.1
    have e06 : S 0 0 6 = B 0 0 6 := by rw [hB 0 (by decide)]
    have e20 : S 2 c 0 = B 2 c 0 := by rw [hB 2 (by decide)]
    have hcb := ct_b (A := B) 20 (c := c) (r := 0) (q := 0)
    refine es_rg (fun hg1 => ?_)
    refine es_sg 3 (p := (0 : Int) = 0) (pc' := 33) (ls' := [some (aR 0 (0 : Int)), some (aI m), some (aI q), some (aI c)]) (st' := [aI (S 0 0 6), aI c]) (S' := S) rfl rfl ?_
    refine es_icmp rfl 63 rfl ⟨by omega, by omega⟩ (rgI hg1 (t := 0) (i := (0 : Int)) (q := (6 : Int)) (by omega : 0 ≤ (0 : Int) ∧ (0 : Int) < 1) (by omega) rfl) (fun (g33 : (S 0 0 6) ≤ c) => ?_) (fun (g33 : ¬ ((S 0 0 6) ≤ c)) => ?_)
    · refine es_s0 1 (pc' := 64) (ls' := [some (aR 0 (0 : Int)), some (aI m), some (aI q), some (aI c)]) (st' := [aI q]) (S' := S) rfl ?_
      refine es_iret rfl rfl rfl (Or.inl rfl) ?_
      have e : n = 0 := by omega
      subst e
      exact h S hB (Fr.rf S)
    · refine es_sg 6 (p := ((0 : Int) = 0) ∧ ((((0 : Int) = 0) ∧ (0 ≤ c ∧ c < 20)) ∧ (0 ≤ c ∧ c < 20))) (pc' := 46) (ls' := [some (aR 0 (0 : Int)), some (aI m), some (aI q), some (aI c)]) (st' := [aI m, aI (S 2 c 0)]) (S' := S) rfl ⟨rfl, ⟨rfl, (by omega)⟩, (by omega)⟩ ?_
      refine es_icmp rfl 57 rfl (rgI hg1 (t := 2) (i := c) (q := (0 : Int)) (by omega : 0 ≤ c ∧ c < 20) (by omega) rfl) hm (fun (g46 : ¬ (S 2 c 0) = m) => ?_) (fun (g46 : ¬ (¬ (S 2 c 0) = m)) => ?_)
      · refine es_s0 2 (pc' := 28) (ls' := [some (aR 0 (0 : Int)), some (aI m), some (aI q), some (aI (c + 1))]) (st' := []) (S' := S) rfl ?_
        obtain ⟨n, rfl⟩ : ∃ m, n = m + 1 := ⟨n - 1, by omega⟩
        unfold crF at h
        rw [if_neg (by omega)] at h
        exact ih n (by omega) B S (c + 1) q hB hCB (by omega) (by omega) (by omega) h
      · refine es_s0 3 (pc' := 52) (ls' := [some (aR 0 (0 : Int)), some (aI m), some (aI q), some (aI c)]) (st' := [aI c, aR 0 (0 : Int), aI q]) (S' := S) rfl ?_
        refine es_callV rfl rfl 0 (0 : Int) [aI c] [aI q] rfl rfl rfl rfl (Nat.le_of_ble_eq_true rfl) (Nat.le_of_ble_eq_true rfl) (Nat.le_of_ble_eq_true rfl) ?_
        refine m52 (A := B) (c := c) hB hCB (by omega) (fun S1 k1 k2 => ?_)
        show Es G 68 55 [some (aR 0 (0 : Int)), some (aI m), some (aI q), some (aI c)] [aI ((ctF 20 B c 0 0).2), aI q] S1 _ _
        refine es_rg (fun hg2 => ?_)
        refine es_s0 4 (pc' := 28) (ls' := [some (aR 0 (0 : Int)), some (aI m), some (aI (q + ((ctF 20 B c 0 0).2))), some (aI (c + 1))]) (st' := []) (S' := S1) rfl ?_
        obtain ⟨n, rfl⟩ : ∃ m, n = m + 1 := ⟨n - 1, by omega⟩
        unfold crF at h
        rw [if_pos (by omega)] at h
        exact ih n (by omega) (ctF 20 B c 0 0).1 S1 (c + 1) _ k1 (hCB.ct 20 (by omega) (by omega)) (by rw [(ct_keep 20).1]; omega) (by omega) (by omega) (fun S' j1 j2 => h S' j1 (k2.tr j2))
theorem m68 {G : Gw} {S : Sg} {k : Nat} {Q : AQ} {A : Sg} (hL : Lk A S) (hA : CI A) {m : Int} (hm : r32 m) (t1 : ¬ (0 ≤ m ∧ m < S 0 0 6) → Q (.inr 1) S) (h1 : (0 ≤ m ∧ m < S 0 0 6) ∧ ¬ S 2 m 0 = -1 → Q (.inl (some (aI 0))) S) (h0 : (0 ≤ m ∧ m < S 0 0 6) ∧ S 2 m 0 = -1 → ∀ S' : Sg, Lk (crF (A 0 0 6).toNat (su A 0 0 8 0) m 0 0).1 S' → Fr S S' → Q (.inl (some (aI (crF (A 0 0 6).toNat (su A 0 0 8 0) m 0 0).2))) S') : Es G 68 0 (aEnt 4 [aR 0 (0 : Int), aI m]) [] S (k + 5) Q := by
  have hS := hA.lk hL
  have hnp := hS.1.1
  have hnc := hS.1.2.1
  have e05 : S 0 0 5 = A 0 0 5 := by rw [hL 0 (by decide)]
  have e06 : S 0 0 6 = A 0 0 6 := by rw [hL 0 (by decide)]
  refine es_rg (fun hg1 => ?_)
  refine es_s0 2 (pc' := 2) (ls' := [some (aR 0 (0 : Int)), some (aI m), none, none]) (st' := [aI m, aR 0 (0 : Int)]) (S' := S) rfl ?_
  refine es_callV rfl rfl 0 (0 : Int) [aI m] [] rfl rfl rfl rfl (Nat.le_of_ble_eq_true rfl) (Nat.le_of_ble_eq_true rfl) (Nat.le_of_ble_eq_true rfl) ?_
  refine m34 (n := m) (by assumption) (fun hc2 => ?_) (fun hc2 => ⟨⟨_, rfl, rfl, rfl⟩, ?_⟩)
  · show Es G 68 5 [some (aR 0 (0 : Int)), some (aI m), none, none] [] S _ _
    refine es_sg 4 (p := ((0 : Int) = 0) ∧ (((0 : Int) = 0) ∧ (0 ≤ m ∧ m < 20))) (pc' := 11) (ls' := [some (aR 0 (0 : Int)), some (aI m), none, none]) (st' := [aR 2 m]) (S' := S) rfl ⟨rfl, ⟨rfl, (by omega)⟩⟩ ?_
    refine es_callV rfl rfl 2 m [] [] rfl rfl rfl (show 0 ≤ m ∧ m < 20 from (by omega)) (Nat.le_of_ble_eq_true rfl) (Nat.le_of_ble_eq_true rfl) (Nat.le_of_ble_eq_true rfl) ?_
    refine m35 (c := m) (by omega) (fun hc11 => ?_) (fun hc11 => ?_)
    · show Es G 68 14 [some (aR 0 (0 : Int)), some (aI m), none, none] [aI (1 : Int)] S _ _
      refine es_if rfl 19 rfl ⟨by decide, by decide⟩ (fun (g14 : (1 : Int) = (0 : Int)) => absurd g14 (by decide)) (fun (g14 : ¬ ((1 : Int) = (0 : Int))) => ?_)
      refine es_s0 1 (pc' := 18) (ls' := [some (aR 0 (0 : Int)), some (aI m), none, none]) (st' := [aI (0 : Int)]) (S' := S) rfl ?_
      refine es_iret rfl rfl rfl (Or.inl rfl) ?_
      exact h1 (by omega)
    · show Es G 68 14 [some (aR 0 (0 : Int)), some (aI m), none, none] [aI (0 : Int)] S _ _
      refine es_if rfl 19 rfl ⟨by decide, by decide⟩ (fun (g14 : (0 : Int) = (0 : Int)) => ?_) (fun (g14 : ¬ ((0 : Int) = (0 : Int))) => absurd g14 (by decide))
      refine es_sg 3 (p := ((0 : Int) = 0) ∧ (r64 (0 : Int))) (pc' := 24) (ls' := [some (aR 0 (0 : Int)), some (aI m), none, none]) (st' := []) (S' := su S 0 0 8 0) rfl ⟨rfl, ⟨by decide, by decide⟩⟩ ?_
      refine es_rg (fun hg2 => ?_)
      refine es_s0 4 (pc' := 28) (ls' := [some (aR 0 (0 : Int)), some (aI m), some (aI (0 : Int)), some (aI (0 : Int))]) (st' := []) (S' := su S 0 0 8 0) rfl ?_
      refine m68_l hm (A 0 0 6).toNat (su A 0 0 8 0) _ 0 0 (su_lk hL) hA.told0 (show 0 + (((A 0 0 6).toNat : Nat) : Int) = A 0 0 6 from by omega) (by omega) (by omega) (fun S' j1 j2 => h0 (by omega) S' j1 (fun t ht => ?_))
      rw [j2 t ht, su_tt _ (by omega)]
  · exact t1 (by omega)
