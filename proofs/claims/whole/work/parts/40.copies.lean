/-! THE CLASS: copies -/
theorem m50 {G : Gw} {S : Sg} {k : Nat} {Q : AQ} (hnp : 0 ≤ S 0 0 5 ∧ S 0 0 5 ≤ 60) {c r : Int} (hc : 0 ≤ c ∧ c < 20) (hr : 0 ≤ r ∧ r < 20) (hs : 0 ≤ S 2 c 5 ∧ S 2 c 5 ≤ 20) (h0 : 60 ≤ S 0 0 5 → Q (.inl (some (aI 0))) S) (h1 : S 0 0 5 < 60 → Q (.inl (some (aI 1))) (fJoin (fMv (fPart S (S 5 0 0) (S 5 0 1)) (S 0 0 5) (S 5 0 2) (S 5 0 3) (S 5 0 6)) c (S 0 0 5) r)) : Es G 50 0 (aEnt 4 [aR 0 (0 : Int), aI c, aI r]) [] S (k + 2) Q := by
  refine es_rg (fun hg1 => ?_)
  refine es_sg 7 (p := ((0 : Int) = 0) ∧ (((0 : Int) = 0) ∧ (((0 : Int) = 0) ∧ ((0 : Int) = 0)))) (pc' := 15) (ls' := [some (aR 0 (0 : Int)), some (aI c), some (aI r), none]) (st' := [aL (S 5 0 1), aL (S 5 0 0), aR 0 (0 : Int)]) (S' := S) rfl ⟨rfl, rfl, rfl, rfl⟩ ?_
  refine es_callV rfl rfl 0 (0 : Int) [aL (S 5 0 0), aL (S 5 0 1)] [] rfl rfl rfl rfl (Nat.le_of_ble_eq_true rfl) (Nat.le_of_ble_eq_true rfl) (Nat.le_of_ble_eq_true rfl) ?_
  refine m9 hnp (rgL hg1 (t := 5) (i := (0 : Int)) (q := (0 : Int)) (by omega : 0 ≤ (0 : Int) ∧ (0 : Int) < 1) (by omega) rfl) (rgL hg1 (t := 5) (i := (0 : Int)) (q := (1 : Int)) (by omega : 0 ≤ (0 : Int) ∧ (0 : Int) < 1) (by omega) rfl) (fun hc15 => ?_) (fun hc15 => ?_)
  · show Es G 50 18 [some (aR 0 (0 : Int)), some (aI c), some (aI r), none] [aI (-1 : Int)] S _ _
    refine es_s0 3 (pc' := 21) (ls' := [some (aR 0 (0 : Int)), some (aI c), some (aI r), some (aI (-1 : Int))]) (st' := [aI (-1 : Int), aI (-1 : Int)]) (S' := S) rfl ?_
    refine es_icmp rfl 26 rfl ⟨by decide, by decide⟩ ⟨by decide, by decide⟩ (fun (g21 : ¬ (-1 : Int) = (-1 : Int)) => absurd g21 (by decide)) (fun (g21 : ¬ (¬ (-1 : Int) = (-1 : Int))) => ?_)
    refine es_s0 1 (pc' := 25) (ls' := [some (aR 0 (0 : Int)), some (aI c), some (aI r), some (aI (-1 : Int))]) (st' := [aI (0 : Int)]) (S' := S) rfl ?_
    refine es_iret rfl rfl rfl (Or.inr ⟨rfl, (by decide)⟩) ?_
    first | exact h0 (by omega) | exact h1 (by omega) | (exfalso; omega)
  · show Es G 50 18 [some (aR 0 (0 : Int)), some (aI c), some (aI r), none] [aI (S 0 0 5)] (su (su (su S 1 (S 0 0 5) 0 (S 5 0 0)) 1 (S 0 0 5) 1 (S 5 0 1)) 0 0 5 ((S 0 0 5) + 1)) _ _
    refine es_rg (fun hg2 => ?_)
    refine es_s0 3 (pc' := 21) (ls' := [some (aR 0 (0 : Int)), some (aI c), some (aI r), some (aI (S 0 0 5))]) (st' := [aI (-1 : Int), aI (S 0 0 5)]) (S' := su (su (su S 1 (S 0 0 5) 0 (S 5 0 0)) 1 (S 0 0 5) 1 (S 5 0 1)) 0 0 5 ((S 0 0 5) + 1)) rfl ?_
    refine es_icmp rfl 26 rfl (rgI hg1 (t := 0) (i := (0 : Int)) (q := (5 : Int)) (by omega : 0 ≤ (0 : Int) ∧ (0 : Int) < 1) (by omega) rfl) ⟨by decide, by decide⟩ (fun (g21 : ¬ (S 0 0 5) = (-1 : Int)) => ?_) (fun (g21 : ¬ (¬ (S 0 0 5) = (-1 : Int))) => ?_)
    · refine es_sg 13 (p := ((0 : Int) = 0) ∧ ((((0 : Int) = 0) ∧ (0 ≤ (S 0 0 5) ∧ (S 0 0 5) < 60)) ∧ (((0 : Int) = 0) ∧ (((0 : Int) = 0) ∧ (((0 : Int) = 0) ∧ (((0 : Int) = 0) ∧ (((0 : Int) = 0) ∧ ((0 : Int) = 0)))))))) (pc' := 53) (ls' := [some (aR 0 (0 : Int)), some (aI c), some (aI r), some (aI (S 0 0 5))]) (st' := [aI (S 5 0 6), aL (S 5 0 3), aL (S 5 0 2), aR 1 (S 0 0 5)]) (S' := su (su (su S 1 (S 0 0 5) 0 (S 5 0 0)) 1 (S 0 0 5) 1 (S 5 0 1)) 0 0 5 ((S 0 0 5) + 1)) rfl ⟨rfl, ⟨rfl, (by omega)⟩, rfl, rfl, rfl, rfl, rfl, rfl⟩ ?_
      refine es_callV rfl rfl 1 (S 0 0 5) [aL (S 5 0 2), aL (S 5 0 3), aI (S 5 0 6)] [] rfl rfl rfl (show 0 ≤ (S 0 0 5) ∧ (S 0 0 5) < 60 from (by omega)) (Nat.le_of_ble_eq_true rfl) (Nat.le_of_ble_eq_true rfl) (Nat.le_of_ble_eq_true rfl) ?_
      refine m22 (i := (S 0 0 5)) (x := (S 5 0 2)) (y := (S 5 0 3)) (t := (S 5 0 6)) (by omega) (rgL hg1 (t := 5) (i := (0 : Int)) (q := (2 : Int)) (by omega : 0 ≤ (0 : Int) ∧ (0 : Int) < 1) (by omega) rfl) (rgL hg1 (t := 5) (i := (0 : Int)) (q := (3 : Int)) (by omega : 0 ≤ (0 : Int) ∧ (0 : Int) < 1) (by omega) rfl) (rgI hg1 (t := 5) (i := (0 : Int)) (q := (6 : Int)) (by omega : 0 ≤ (0 : Int) ∧ (0 : Int) < 1) (by omega) rfl) (fun hc53 => ?_) (fun hc53 => ?_)
      · show Es G 50 56 [some (aR 0 (0 : Int)), some (aI c), some (aI r), some (aI (S 0 0 5))] [aI (1 : Int)] (su (su (su (su (su (su S 1 (S 0 0 5) 0 (S 5 0 0)) 1 (S 0 0 5) 1 (S 5 0 1)) 0 0 5 ((S 0 0 5) + 1)) 1 (S 0 0 5) 2 (S 5 0 2)) 1 (S 0 0 5) 3 (S 5 0 3)) 1 (S 0 0 5) 4 (S 5 0 6)) _ _
        refine es_rg (fun hg3 => ?_)
        refine es_s0 5 (pc' := 61) (ls' := [some (aR 0 (0 : Int)), some (aI c), some (aI r), some (aI (S 0 0 5))]) (st' := [aI r, aI (S 0 0 5), aI c, aR 0 (0 : Int)]) (S' := su (su (su (su (su (su S 1 (S 0 0 5) 0 (S 5 0 0)) 1 (S 0 0 5) 1 (S 5 0 1)) 0 0 5 ((S 0 0 5) + 1)) 1 (S 0 0 5) 2 (S 5 0 2)) 1 (S 0 0 5) 3 (S 5 0 3)) 1 (S 0 0 5) 4 (S 5 0 6)) rfl ?_
        refine es_callV rfl rfl 0 (0 : Int) [aI c, aI (S 0 0 5), aI r] [] rfl rfl rfl rfl (Nat.le_of_ble_eq_true rfl) (Nat.le_of_ble_eq_true rfl) (Nat.le_of_ble_eq_true rfl) ?_
        refine m36 (c := c) (p := (S 0 0 5)) (r := r) (by omega) (by omega) (by omega) (show 0 ≤ S 2 c 5 ∧ S 2 c 5 ≤ 100 from by omega) ?_
        show Es G 50 64 [some (aR 0 (0 : Int)), some (aI c), some (aI r), some (aI (S 0 0 5))] [] (su (su (su (su (su (su (su (su (su (su S 1 (S 0 0 5) 0 (S 5 0 0)) 1 (S 0 0 5) 1 (S 5 0 1)) 0 0 5 ((S 0 0 5) + 1)) 1 (S 0 0 5) 2 (S 5 0 2)) 1 (S 0 0 5) 3 (S 5 0 3)) 1 (S 0 0 5) 4 (S 5 0 6)) 3 c r (S 0 0 5)) 2 c 5 ((S 2 c 5) + 1)) 1 (S 0 0 5) 5 c) 1 (S 0 0 5) 6 r) _ _
        refine es_rg (fun hg4 => ?_)
        refine es_s0 1 (pc' := 65) (ls' := [some (aR 0 (0 : Int)), some (aI c), some (aI r), some (aI (S 0 0 5))]) (st' := [aI (1 : Int)]) (S' := su (su (su (su (su (su (su (su (su (su S 1 (S 0 0 5) 0 (S 5 0 0)) 1 (S 0 0 5) 1 (S 5 0 1)) 0 0 5 ((S 0 0 5) + 1)) 1 (S 0 0 5) 2 (S 5 0 2)) 1 (S 0 0 5) 3 (S 5 0 3)) 1 (S 0 0 5) 4 (S 5 0 6)) 3 c r (S 0 0 5)) 2 c 5 ((S 2 c 5) + 1)) 1 (S 0 0 5) 5 c) 1 (S 0 0 5) 6 r) rfl ?_
        refine es_iret rfl rfl rfl (Or.inr ⟨rfl, (by decide)⟩) ?_
        first | exact h0 (by omega) | exact h1 (by omega) | (exfalso; omega)
      · show Es G 50 56 [some (aR 0 (0 : Int)), some (aI c), some (aI r), some (aI (S 0 0 5))] [aI (0 : Int)] (su (su (su (su (su (su S 1 (S 0 0 5) 0 (S 5 0 0)) 1 (S 0 0 5) 1 (S 5 0 1)) 0 0 5 ((S 0 0 5) + 1)) 1 (S 0 0 5) 2 (S 5 0 2)) 1 (S 0 0 5) 3 (S 5 0 3)) 1 (S 0 0 5) 4 (S 5 0 6)) _ _
        refine es_rg (fun hg5 => ?_)
        refine es_s0 5 (pc' := 61) (ls' := [some (aR 0 (0 : Int)), some (aI c), some (aI r), some (aI (S 0 0 5))]) (st' := [aI r, aI (S 0 0 5), aI c, aR 0 (0 : Int)]) (S' := su (su (su (su (su (su S 1 (S 0 0 5) 0 (S 5 0 0)) 1 (S 0 0 5) 1 (S 5 0 1)) 0 0 5 ((S 0 0 5) + 1)) 1 (S 0 0 5) 2 (S 5 0 2)) 1 (S 0 0 5) 3 (S 5 0 3)) 1 (S 0 0 5) 4 (S 5 0 6)) rfl ?_
        refine es_callV rfl rfl 0 (0 : Int) [aI c, aI (S 0 0 5), aI r] [] rfl rfl rfl rfl (Nat.le_of_ble_eq_true rfl) (Nat.le_of_ble_eq_true rfl) (Nat.le_of_ble_eq_true rfl) ?_
        refine m36 (c := c) (p := (S 0 0 5)) (r := r) (by omega) (by omega) (by omega) (show 0 ≤ S 2 c 5 ∧ S 2 c 5 ≤ 100 from by omega) ?_
        show Es G 50 64 [some (aR 0 (0 : Int)), some (aI c), some (aI r), some (aI (S 0 0 5))] [] (su (su (su (su (su (su (su (su (su (su S 1 (S 0 0 5) 0 (S 5 0 0)) 1 (S 0 0 5) 1 (S 5 0 1)) 0 0 5 ((S 0 0 5) + 1)) 1 (S 0 0 5) 2 (S 5 0 2)) 1 (S 0 0 5) 3 (S 5 0 3)) 1 (S 0 0 5) 4 (S 5 0 6)) 3 c r (S 0 0 5)) 2 c 5 ((S 2 c 5) + 1)) 1 (S 0 0 5) 5 c) 1 (S 0 0 5) 6 r) _ _
        refine es_rg (fun hg6 => ?_)
        refine es_s0 1 (pc' := 65) (ls' := [some (aR 0 (0 : Int)), some (aI c), some (aI r), some (aI (S 0 0 5))]) (st' := [aI (1 : Int)]) (S' := su (su (su (su (su (su (su (su (su (su S 1 (S 0 0 5) 0 (S 5 0 0)) 1 (S 0 0 5) 1 (S 5 0 1)) 0 0 5 ((S 0 0 5) + 1)) 1 (S 0 0 5) 2 (S 5 0 2)) 1 (S 0 0 5) 3 (S 5 0 3)) 1 (S 0 0 5) 4 (S 5 0 6)) 3 c r (S 0 0 5)) 2 c 5 ((S 2 c 5) + 1)) 1 (S 0 0 5) 5 c) 1 (S 0 0 5) 6 r) rfl ?_
        refine es_iret rfl rfl rfl (Or.inr ⟨rfl, (by decide)⟩) ?_
        first | exact h0 (by omega) | exact h1 (by omega) | (exfalso; omega)
    · refine es_s0 1 (pc' := 25) (ls' := [some (aR 0 (0 : Int)), some (aI c), some (aI r), some (aI (S 0 0 5))]) (st' := [aI (0 : Int)]) (S' := su (su (su S 1 (S 0 0 5) 0 (S 5 0 0)) 1 (S 0 0 5) 1 (S 5 0 1)) 0 0 5 ((S 0 0 5) + 1)) rfl ?_
      refine es_iret rfl rfl rfl (Or.inr ⟨rfl, (by decide)⟩) ?_
      first | exact h0 (by omega) | exact h1 (by omega) | (exfalso; omega)
theorem m51 {G : Gw} {S : Sg} {k : Nat} {Q : AQ} (hnp : 0 ≤ S 0 0 5 ∧ S 0 0 5 ≤ 60) {c r : Int} (hc : 0 ≤ c ∧ c < 20) (hr : 0 ≤ r ∧ r < 20) (hs : 0 ≤ S 2 c 5 ∧ S 2 c 5 ≤ 20) (a0 : ¬ (0 ≤ S 3 c r ∧ S 3 c r < S 0 0 5) ∧ 60 ≤ S 0 0 5 → Q (.inl (some (aI 0))) (S)) (a1 : ¬ (0 ≤ S 3 c r ∧ S 3 c r < S 0 0 5) ∧ S 0 0 5 < 60 → Q (.inl (some (aI 1))) (fJoin (fMv (fPart S (S 5 0 0) (S 5 0 1)) (S 0 0 5) (S 5 0 2) (S 5 0 3) (S 5 0 6)) c (S 0 0 5) r)) (a2 : ((0 ≤ S 3 c r ∧ S 3 c r < S 0 0 5) ∧ S 1 (S 3 c r) 7 = 0) ∧ (S 1 (S 3 c r) 2 = S 5 0 2 ∧ S 1 (S 3 c r) 3 = S 5 0 3 ∧ S 1 (S 3 c r) 4 = S 5 0 6) → Q (.inl (some (aI 0))) (fMv S (S 3 c r) (S 5 0 2) (S 5 0 3) (S 5 0 6))) (a3 : ((0 ≤ S 3 c r ∧ S 3 c r < S 0 0 5) ∧ S 1 (S 3 c r) 7 = 0) ∧ ¬ (S 1 (S 3 c r) 2 = S 5 0 2 ∧ S 1 (S 3 c r) 3 = S 5 0 3 ∧ S 1 (S 3 c r) 4 = S 5 0 6) → Q (.inl (some (aI 1))) (fMv S (S 3 c r) (S 5 0 2) (S 5 0 3) (S 5 0 6))) (a4 : ((0 ≤ S 3 c r ∧ S 3 c r < S 0 0 5) ∧ ¬ S 1 (S 3 c r) 7 = 0) ∧ (S 1 (S 3 c r) 2 = S 5 0 2 ∧ S 1 (S 3 c r) 3 = S 5 0 3 ∧ S 1 (S 3 c r) 4 = S 5 0 6) → Q (.inl (some (aI 0))) (S)) (a5 : ((0 ≤ S 3 c r ∧ S 3 c r < S 0 0 5) ∧ ¬ S 1 (S 3 c r) 7 = 0) ∧ ¬ (S 1 (S 3 c r) 2 = S 5 0 2 ∧ S 1 (S 3 c r) 3 = S 5 0 3 ∧ S 1 (S 3 c r) 4 = S 5 0 6) → Q (.inl (some (aI 0))) (su S 0 0 8 (lOr (S 0 0 8) (lShl 1 (S 3 c r))))) : Es G 51 0 (aEnt 5 [aR 0 (0 : Int), aI c, aI r]) [] S (k + 3) Q := by
  refine es_rg (fun hg1 => ?_)
  refine es_sg 10 (p := ((0 : Int) = 0) ∧ ((((0 : Int) = 0) ∧ (0 ≤ c ∧ c < 20)) ∧ ((0 ≤ c ∧ c < 20) ∧ ((0 ≤ c ∧ c < 20) ∧ (0 ≤ r ∧ r < 20))))) (pc' := 14) (ls' := [some (aR 0 (0 : Int)), some (aI c), some (aI r), some (aI (S 3 c r)), none]) (st' := [aI (S 3 c r), aR 0 (0 : Int)]) (S' := S) rfl ⟨rfl, ⟨rfl, (by omega)⟩, (by omega), ⟨(by omega), (by omega)⟩⟩ ?_
  refine es_callV rfl rfl 0 (0 : Int) [aI (S 3 c r)] [] rfl rfl rfl rfl (Nat.le_of_ble_eq_true rfl) (Nat.le_of_ble_eq_true rfl) (Nat.le_of_ble_eq_true rfl) ?_
  refine m16 (n := (S 3 c r)) (rgI hg1 (t := 3) (i := c) (q := r) (by omega : 0 ≤ c ∧ c < 20) (by omega) rfl) (fun hc14 => ?_) (fun hc14 => ?_)
  · show Es G 51 17 [some (aR 0 (0 : Int)), some (aI c), some (aI r), some (aI (S 3 c r)), none] [aI (1 : Int)] S _ _
    refine es_if rfl 27 rfl ⟨by decide, by decide⟩ (fun (g17 : ¬ (1 : Int) = (0 : Int)) => ?_) (fun (g17 : ¬ (¬ (1 : Int) = (0 : Int))) => absurd g17 (by decide))
    refine es_sg 7 (p := ((0 : Int) = 0) ∧ ((((0 : Int) = 0) ∧ (0 ≤ (S 3 c r) ∧ (S 3 c r) < 60)) ∧ (0 ≤ (S 3 c r) ∧ (S 3 c r) < 60))) (pc' := 40) (ls' := [some (aR 0 (0 : Int)), some (aI c), some (aI r), some (aI (S 3 c r)), some (aR 1 (S 3 c r))]) (st' := [aI (S 1 (S 3 c r) 7)]) (S' := S) rfl ⟨rfl, ⟨rfl, (by omega)⟩, (by omega)⟩ ?_
    refine es_if rfl 70 rfl (r32_z (rgZ hg1 (t := 1) (i := (S 3 c r)) (q := (7 : Int)) (by omega : 0 ≤ (S 3 c r) ∧ (S 3 c r) < 60) (by omega) rfl)) (fun (g40 : ¬ (S 1 (S 3 c r) 7) = (0 : Int)) => ?_) (fun (g40 : ¬ (¬ (S 1 (S 3 c r) 7) = (0 : Int))) => ?_)
    · refine es_sg 10 (p := ((0 : Int) = 0) ∧ (((0 : Int) = 0) ∧ (((0 : Int) = 0) ∧ (((0 : Int) = 0) ∧ (((0 : Int) = 0) ∧ ((0 : Int) = 0)))))) (pc' := 93) (ls' := [some (aR 0 (0 : Int)), some (aI c), some (aI r), some (aI (S 3 c r)), some (aR 1 (S 3 c r))]) (st' := [aI (S 5 0 6), aL (S 5 0 3), aL (S 5 0 2), aR 1 (S 3 c r)]) (S' := S) rfl ⟨rfl, rfl, rfl, rfl, rfl, rfl⟩ ?_
      refine es_callV rfl rfl 1 (S 3 c r) [aL (S 5 0 2), aL (S 5 0 3), aI (S 5 0 6)] [] rfl rfl rfl (show 0 ≤ (S 3 c r) ∧ (S 3 c r) < 60 from (by omega)) (Nat.le_of_ble_eq_true rfl) (Nat.le_of_ble_eq_true rfl) (Nat.le_of_ble_eq_true rfl) ?_
      refine m21 (i := (S 3 c r)) (x := (S 5 0 2)) (y := (S 5 0 3)) (t := (S 5 0 6)) (by omega) (rgL hg1 (t := 5) (i := (0 : Int)) (q := (2 : Int)) (by omega : 0 ≤ (0 : Int) ∧ (0 : Int) < 1) (by omega) rfl) (rgL hg1 (t := 5) (i := (0 : Int)) (q := (3 : Int)) (by omega : 0 ≤ (0 : Int) ∧ (0 : Int) < 1) (by omega) rfl) (rgI hg1 (t := 5) (i := (0 : Int)) (q := (6 : Int)) (by omega : 0 ≤ (0 : Int) ∧ (0 : Int) < 1) (by omega) rfl) (fun hc93 => ?_) (fun hc93 => ?_)
      · show Es G 51 96 [some (aR 0 (0 : Int)), some (aI c), some (aI r), some (aI (S 3 c r)), some (aR 1 (S 3 c r))] [aI (1 : Int)] S _ _
        refine es_if rfl 111 rfl ⟨by decide, by decide⟩ (fun (g96 : ¬ (1 : Int) = (0 : Int)) => ?_) (fun (g96 : ¬ (¬ (1 : Int) = (0 : Int))) => absurd g96 (by decide))
        refine es_s0 1 (pc' := 112) (ls' := [some (aR 0 (0 : Int)), some (aI c), some (aI r), some (aI (S 3 c r)), some (aR 1 (S 3 c r))]) (st' := [aI (0 : Int)]) (S' := S) rfl ?_
        refine es_iret rfl rfl rfl (Or.inr ⟨rfl, (by decide)⟩) ?_
        first | exact a0 (by omega) | exact a1 (by omega) | exact a2 (by omega) | exact a3 (by omega) | exact a4 (by omega) | exact a5 (by omega) | (exfalso; omega)
      · show Es G 51 96 [some (aR 0 (0 : Int)), some (aI c), some (aI r), some (aI (S 3 c r)), some (aR 1 (S 3 c r))] [aI (0 : Int)] S _ _
        refine es_if rfl 111 rfl ⟨by decide, by decide⟩ (fun (g96 : ¬ (0 : Int) = (0 : Int)) => absurd g96 (by decide)) (fun (g96 : ¬ (¬ (0 : Int) = (0 : Int))) => ?_)
        refine es_sg 8 (p := ((0 : Int) = 0) ∧ (((0 : Int) = 0) ∧ (r64 (lOr (S 0 0 8) (lShl (1 : Int) (S 3 c r)))))) (pc' := 111) (ls' := [some (aR 0 (0 : Int)), some (aI c), some (aI r), some (aI (S 3 c r)), some (aR 1 (S 3 c r))]) (st' := []) (S' := su S 0 0 8 (lOr (S 0 0 8) (lShl (1 : Int) (S 3 c r)))) rfl ⟨rfl, ⟨rfl, (r64_of _)⟩⟩ ?_
        refine es_rg (fun hg2 => ?_)
        refine es_s0 1 (pc' := 112) (ls' := [some (aR 0 (0 : Int)), some (aI c), some (aI r), some (aI (S 3 c r)), some (aR 1 (S 3 c r))]) (st' := [aI (0 : Int)]) (S' := su S 0 0 8 (lOr (S 0 0 8) (lShl (1 : Int) (S 3 c r)))) rfl ?_
        refine es_iret rfl rfl rfl (Or.inr ⟨rfl, (by decide)⟩) ?_
        first | exact a0 (by omega) | exact a1 (by omega) | exact a2 (by omega) | exact a3 (by omega) | exact a4 (by omega) | exact a5 (by omega) | (exfalso; omega)
    · refine es_sg 10 (p := ((0 : Int) = 0) ∧ (((0 : Int) = 0) ∧ (((0 : Int) = 0) ∧ (((0 : Int) = 0) ∧ (((0 : Int) = 0) ∧ ((0 : Int) = 0)))))) (pc' := 66) (ls' := [some (aR 0 (0 : Int)), some (aI c), some (aI r), some (aI (S 3 c r)), some (aR 1 (S 3 c r))]) (st' := [aI (S 5 0 6), aL (S 5 0 3), aL (S 5 0 2), aR 1 (S 3 c r)]) (S' := S) rfl ⟨rfl, rfl, rfl, rfl, rfl, rfl⟩ ?_
      refine es_callV rfl rfl 1 (S 3 c r) [aL (S 5 0 2), aL (S 5 0 3), aI (S 5 0 6)] [] rfl rfl rfl (show 0 ≤ (S 3 c r) ∧ (S 3 c r) < 60 from (by omega)) (Nat.le_of_ble_eq_true rfl) (Nat.le_of_ble_eq_true rfl) (Nat.le_of_ble_eq_true rfl) ?_
      refine m22 (i := (S 3 c r)) (x := (S 5 0 2)) (y := (S 5 0 3)) (t := (S 5 0 6)) (by omega) (rgL hg1 (t := 5) (i := (0 : Int)) (q := (2 : Int)) (by omega : 0 ≤ (0 : Int) ∧ (0 : Int) < 1) (by omega) rfl) (rgL hg1 (t := 5) (i := (0 : Int)) (q := (3 : Int)) (by omega : 0 ≤ (0 : Int) ∧ (0 : Int) < 1) (by omega) rfl) (rgI hg1 (t := 5) (i := (0 : Int)) (q := (6 : Int)) (by omega : 0 ≤ (0 : Int) ∧ (0 : Int) < 1) (by omega) rfl) (fun hc66 => ?_) (fun hc66 => ?_)
      · show Es G 51 69 [some (aR 0 (0 : Int)), some (aI c), some (aI r), some (aI (S 3 c r)), some (aR 1 (S 3 c r))] [aI (1 : Int)] (su (su (su S 1 (S 3 c r) 2 (S 5 0 2)) 1 (S 3 c r) 3 (S 5 0 3)) 1 (S 3 c r) 4 (S 5 0 6)) _ _
        refine es_rg (fun hg3 => ?_)
        refine es_iret rfl rfl rfl (Or.inr ⟨rfl, (by decide)⟩) ?_
        first | exact a0 (by omega) | exact a1 (by omega) | exact a2 (by omega) | exact a3 (by omega) | exact a4 (by omega) | exact a5 (by omega) | (exfalso; omega)
      · show Es G 51 69 [some (aR 0 (0 : Int)), some (aI c), some (aI r), some (aI (S 3 c r)), some (aR 1 (S 3 c r))] [aI (0 : Int)] (su (su (su S 1 (S 3 c r) 2 (S 5 0 2)) 1 (S 3 c r) 3 (S 5 0 3)) 1 (S 3 c r) 4 (S 5 0 6)) _ _
        refine es_rg (fun hg4 => ?_)
        refine es_iret rfl rfl rfl (Or.inr ⟨rfl, (by decide)⟩) ?_
        first | exact a0 (by omega) | exact a1 (by omega) | exact a2 (by omega) | exact a3 (by omega) | exact a4 (by omega) | exact a5 (by omega) | (exfalso; omega)
  · show Es G 51 17 [some (aR 0 (0 : Int)), some (aI c), some (aI r), some (aI (S 3 c r)), none] [aI (0 : Int)] S _ _
    refine es_if rfl 27 rfl ⟨by decide, by decide⟩ (fun (g17 : ¬ (0 : Int) = (0 : Int)) => absurd g17 (by decide)) (fun (g17 : ¬ (¬ (0 : Int) = (0 : Int))) => ?_)
    refine es_s0 3 (pc' := 23) (ls' := [some (aR 0 (0 : Int)), some (aI c), some (aI r), some (aI (S 3 c r)), none]) (st' := [aI r, aI c, aR 0 (0 : Int)]) (S' := S) rfl ?_
    refine es_callV rfl rfl 0 (0 : Int) [aI c, aI r] [] rfl rfl rfl rfl (Nat.le_of_ble_eq_true rfl) (Nat.le_of_ble_eq_true rfl) (Nat.le_of_ble_eq_true rfl) ?_
    refine m50 hnp hc hr hs (fun hc23 => ?_) (fun hc23 => ?_)
    · show Es G 51 26 [some (aR 0 (0 : Int)), some (aI c), some (aI r), some (aI (S 3 c r)), none] [aI (0 : Int)] S _ _
      refine es_iret rfl rfl rfl (Or.inr ⟨rfl, (by decide)⟩) ?_
      first | exact a0 (by omega) | exact a1 (by omega) | exact a2 (by omega) | exact a3 (by omega) | exact a4 (by omega) | exact a5 (by omega) | (exfalso; omega)
    · show Es G 51 26 [some (aR 0 (0 : Int)), some (aI c), some (aI r), some (aI (S 3 c r)), none] [aI (1 : Int)] (fJoin (fMv (fPart S (S 5 0 0) (S 5 0 1)) (S 0 0 5) (S 5 0 2) (S 5 0 3) (S 5 0 6)) c (S 0 0 5) r) _ _
      refine es_rg (fun hg5 => ?_)
      refine es_iret rfl rfl rfl (Or.inr ⟨rfl, (by decide)⟩) ?_
      first | exact a0 (by omega) | exact a1 (by omega) | exact a2 (by omega) | exact a3 (by omega) | exact a4 (by omega) | exact a5 (by omega) | (exfalso; omega)
theorem m51s {G : Gw} {S : Sg} {k : Nat} {Q : AQ} (hnp : 0 ≤ S 0 0 5 ∧ S 0 0 5 ≤ 60) {c r : Int} (hc : 0 ≤ c ∧ c < 20) (hr : 0 ≤ r ∧ r < 20) (hs : 0 ≤ S 2 c 5 ∧ S 2 c 5 ≤ 20) (h : Q (.inl (some (aI (cpS S c r (S 5 0 0) (S 5 0 1) (S 5 0 2) (S 5 0 3) (S 5 0 6)).2))) (cpS S c r (S 5 0 0) (S 5 0 1) (S 5 0 2) (S 5 0 3) (S 5 0 6)).1) : Es G 51 0 (aEnt 5 [aR 0 0, aI c, aI r]) [] S (k + 3) Q := by
  unfold cpS at h
  refine m51 hnp hc hr hs (fun g => ?_) (fun g => ?_) (fun g => ?_) (fun g => ?_) (fun g => ?_) (fun g => ?_)
  · rw [if_neg g.1, if_neg (by omega)] at h; exact h
  · rw [if_neg g.1, if_pos g.2] at h; exact h
  · rw [if_pos g.1.1, if_pos g.1.2, if_pos g.2] at h; exact h
  · rw [if_pos g.1.1, if_pos g.1.2, if_neg g.2] at h; exact h
  · rw [if_pos g.1.1, if_neg g.1.2, if_pos g.2] at h; exact h
  · rw [if_pos g.1.1, if_neg g.1.2, if_neg g.2] at h; exact h
theorem m52_l {G : Gw} {k : Nat} {Q : AQ} {c : Int} : ∀ (n : Nat) (A S : Sg) (r q : Int) (_ : Lk A S) (_ : CI A) (_ : 0 ≤ c ∧ c < A 0 0 6) (_ : 0 ≤ r) (_ : r + n = 20) (_ : 0 ≤ q ∧ q ≤ r) (_ : ∀ S' : Sg, Lk (ctF n A c r q).1 S' → Fr S S' → Q (.inl (some (aI (ctF n A c r q).2))) S'), Es G 52 4 [some (aR 0 0), some (aI c), some (aI q), some (aI r)] [] S (k + 4) Q := by
  intro n
  induction n using Nat.strongRecOn with
  | _ n ih =>
    intro A S r q hL hA hc hr hn hq h
    have hS := hA.lk hL
    have hn2 := hA.1.2.1
    have e06 : S 0 0 6 = A 0 0 6 := by rw [hL 0 (by decide)]
    refine es_rg (fun hg1 => ?_)
    refine es_s0 2 (pc' := 7) (ls' := [some (aR 0 (0 : Int)), some (aI c), some (aI q), some (aI r)]) (st' := [aI (20 : Int), aI r]) (S' := S) rfl ?_
    refine es_icmp rfl 42 rfl ⟨by omega, by omega⟩ ⟨by decide, by decide⟩ (fun (g7 : (20 : Int) ≤ r) => ?_) (fun (g7 : ¬ ((20 : Int) ≤ r)) => ?_)
    · refine es_s0 1 (pc' := 43) (ls' := [some (aR 0 (0 : Int)), some (aI c), some (aI q), some (aI r)]) (st' := [aI q]) (S' := S) rfl ?_
      refine es_iret rfl rfl rfl (Or.inl rfl) ?_
      have e : n = 0 := by omega
      subst e
      exact h S hL (Fr.rf S)
    · refine es_sg 6 (p := ((0 : Int) = 0) ∧ (((0 : Int) = 0) ∧ (0 ≤ c ∧ c < 20))) (pc' := 18) (ls' := [some (aR 0 (0 : Int)), some (aI c), some (aI q), some (aI r)]) (st' := [aI r, aR 2 c, aR 0 (0 : Int)]) (S' := S) rfl ⟨rfl, ⟨rfl, (by omega)⟩⟩ ?_
      refine es_callV rfl rfl 0 (0 : Int) [aR 2 c, aI r] [] rfl rfl rfl rfl (Nat.le_of_ble_eq_true rfl) (Nat.le_of_ble_eq_true rfl) (Nat.le_of_ble_eq_true rfl) ?_
      refine m49 (S := S) hS.1.1 hS.1.2.1 (c := c) (r := r) (by omega) (by omega) (hS.2.2.1 _ (by omega) (by omega)).1 (hS.orig (by omega) (by omega)) (fun hc18 => ?_) (fun hc18 S1 q0 q1 q2 q3 q4 q5 => ?_)
      · show Es G 52 21 [some (aR 0 (0 : Int)), some (aI c), some (aI q), some (aI r)] [aI (0 : Int)] S _ _
        refine es_if rfl 36 rfl ⟨by decide, by decide⟩ (fun (g21 : (0 : Int) = (0 : Int)) => ?_) (fun (g21 : ¬ ((0 : Int) = (0 : Int))) => absurd g21 (by decide))
        refine es_s0 2 (pc' := 4) (ls' := [some (aR 0 (0 : Int)), some (aI c), some (aI q), some (aI (r + 1))]) (st' := []) (S' := S) rfl ?_
        obtain ⟨n, rfl⟩ : ∃ m, n = m + 1 := ⟨n - 1, by omega⟩
        rw [ctF_succ] at h
        rw [step_no hL hc18] at h
        rw [show q + (A, (0 : Int)).2 = q from by show q + 0 = q; omega] at h
        exact ih n (by omega) A S (r + 1) q hL hA hc (by omega) (by omega) (by omega) h
      · show Es G 52 21 [some (aR 0 (0 : Int)), some (aI c), some (aI q), some (aI r)] [aI (1 : Int)] S1 _ _
        refine es_rg (fun hg2 => ?_)
        refine es_if rfl 36 rfl ⟨by decide, by decide⟩ (fun (g21 : (1 : Int) = (0 : Int)) => absurd g21 (by decide)) (fun (g21 : ¬ ((1 : Int) = (0 : Int))) => ?_)
        have hS1 : CI S1 := hS.lk (fun t ht => q0 t (by omega))
        refine es_s0 3 (pc' := 27) (ls' := [some (aR 0 (0 : Int)), some (aI c), some (aI q), some (aI r)]) (st' := [aI r, aI c, aR 0 (0 : Int)]) (S' := S1) rfl ?_
        refine es_callV rfl rfl 0 (0 : Int) [aI c, aI r] [] rfl rfl rfl rfl (Nat.le_of_ble_eq_true rfl) (Nat.le_of_ble_eq_true rfl) (Nat.le_of_ble_eq_true rfl) ?_
        refine m51s (S := S1) hS1.1.1 (c := c) (r := r) (by omega) (by omega) (hS1.size (by omega)) ?_
        show Es G 52 30 [some (aR 0 (0 : Int)), some (aI c), some (aI q), some (aI r)] [aI ((cpS S1 c r (S1 5 0 0) (S1 5 0 1) (S1 5 0 2) (S1 5 0 3) (S1 5 0 6)).2)] ((cpS S1 c r (S1 5 0 0) (S1 5 0 1) (S1 5 0 2) (S1 5 0 3) (S1 5 0 6)).1) _ _
        refine es_rg (fun hg3 => ?_)
        refine es_if rfl 36 rfl (r32_z cpS_01) (fun (g30 : ((cpS S1 c r (S1 5 0 0) (S1 5 0 1) (S1 5 0 2) (S1 5 0 3) (S1 5 0 6)).2) = (0 : Int)) => ?_) (fun (g30 : ¬ (((cpS S1 c r (S1 5 0 0) (S1 5 0 1) (S1 5 0 2) (S1 5 0 3) (S1 5 0 6)).2) = (0 : Int))) => ?_)
        · refine es_s0 2 (pc' := 4) (ls' := [some (aR 0 (0 : Int)), some (aI c), some (aI q), some (aI (r + 1))]) (st' := []) (S' := (cpS S1 c r (S1 5 0 0) (S1 5 0 1) (S1 5 0 2) (S1 5 0 3) (S1 5 0 6)).1) rfl ?_
          obtain ⟨n, rfl⟩ : ∃ m, n = m + 1 := ⟨n - 1, by omega⟩
          rw [ctF_succ] at h
          have hst := step_of hL q0 hc18 q1 q2 q3 q4 q5
          have h01 := cpS_01 (S := S1) (c := c) (r := r) (w := S1 5 0 0) (h := S1 5 0 1) (X := S1 5 0 2) (Y := S1 5 0 3) (T := S1 5 0 6)
          rw [← hst.2.1] at h
          rw [show q + (cpS S1 c r (S1 5 0 0) (S1 5 0 1) (S1 5 0 2) (S1 5 0 3) (S1 5 0 6)).2 = q from by omega] at h
          exact ih n (by omega) (stepA A c r).1 _ (r + 1) (q) hst.1 (hA.step hc (by omega)) (by rw [step_keep.1]; exact hc) (by omega) (by omega) (by omega) (fun S' k1 k2 => h S' k1 (hst.2.2.tr k2))
        · refine es_s0 3 (pc' := 4) (ls' := [some (aR 0 (0 : Int)), some (aI c), some (aI (q + 1)), some (aI (r + 1))]) (st' := []) (S' := (cpS S1 c r (S1 5 0 0) (S1 5 0 1) (S1 5 0 2) (S1 5 0 3) (S1 5 0 6)).1) rfl ?_
          obtain ⟨n, rfl⟩ : ∃ m, n = m + 1 := ⟨n - 1, by omega⟩
          rw [ctF_succ] at h
          have hst := step_of hL q0 hc18 q1 q2 q3 q4 q5
          have h01 := cpS_01 (S := S1) (c := c) (r := r) (w := S1 5 0 0) (h := S1 5 0 1) (X := S1 5 0 2) (Y := S1 5 0 3) (T := S1 5 0 6)
          rw [← hst.2.1] at h
          rw [show q + (cpS S1 c r (S1 5 0 0) (S1 5 0 1) (S1 5 0 2) (S1 5 0 3) (S1 5 0 6)).2 = q + 1 from by omega] at h
          exact ih n (by omega) (stepA A c r).1 _ (r + 1) (q + 1) hst.1 (hA.step hc (by omega)) (by rw [step_keep.1]; exact hc) (by omega) (by omega) (by omega) (fun S' k1 k2 => h S' k1 (hst.2.2.tr k2))
theorem m52 {G : Gw} {S : Sg} {k : Nat} {Q : AQ} {A : Sg} {c : Int} (hL : Lk A S) (hA : CI A) (hc : 0 ≤ c ∧ c < A 0 0 6) (h : ∀ S' : Sg, Lk (ctF 20 A c 0 0).1 S' → Fr S S' → Q (.inl (some (aI (ctF 20 A c 0 0).2))) S') : Es G 52 0 (aEnt 4 [aR 0 (0 : Int), aI c]) [] S (k + 4) Q := by
  refine es_rg (fun hg1 => ?_)
  refine es_s0 4 (pc' := 4) (ls' := [some (aR 0 (0 : Int)), some (aI c), some (aI (0 : Int)), some (aI (0 : Int))]) (st' := []) (S' := S) rfl ?_
  exact m52_l 20 A S 0 0 hL hA hc (by omega) (by omega) (by omega) h
