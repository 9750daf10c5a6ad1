/-! THE REFERENCE: searches, told, outside, reckoning -/
theorem n40_l {G : Gw} {A S : Sg} {k : Nat} {Q : AQ} (hA : CI A) (hR : RR A S) {c r : Int} (hc : 0 ≤ c ∧ c < 20) (hr : 0 ≤ r ∧ r < 20) (h : Q (.inl (some (aI (A 3 c r)))) S) : ∀ (n : Nat) (p : Int) (_ : 0 ≤ p) (_ : p + n = A 0 0 5) (_ : ∀ q, 0 ≤ q → q < p → ¬ (A 1 q 5 = c ∧ A 1 q 6 = r)), Es G 40 2 [some (aR 20 (0 : Int)), some (aI c), some (aI r), some (aI p)] [] S (k + 0) Q := by
  intro n
  induction n using Nat.strongRecOn with
  | _ n ih =>
    intro p hp hn hq
    have n1 := hA.1.1
    have n2 := hA.1.2.1
    have n3 := hA.1.2.2
    have e1 : S 20 0 1 = A 0 0 5 := hR.1.1
    have e10 : S 20 0 10 = A 0 0 6 := hR.1.2.1
    have e17 : S 20 0 17 = A 0 0 7 := hR.1.2.2
    refine es_rg (fun hg1 => ?_)
    refine es_sg 3 (p := (0 : Int) = 0) (pc' := 7) (ls' := [some (aR 20 (0 : Int)), some (aI c), some (aI r), some (aI p)]) (st' := [aI (S 20 0 1), aI p]) (S' := S) rfl rfl ?_
    refine es_icmp rfl 38 rfl ⟨by omega, by omega⟩ (rgI hg1 (t := 20) (i := (0 : Int)) (q := (1 : Int)) (by omega : 0 ≤ (0 : Int) ∧ (0 : Int) < 1) (by omega) rfl) (fun (g7 : (S 20 0 1) ≤ p) => ?_) (fun (g7 : ¬ ((S 20 0 1) ≤ p)) => ?_)
    · refine es_s0 1 (pc' := 39) (ls' := [some (aR 20 (0 : Int)), some (aI c), some (aI r), some (aI p)]) (st' := [aI (-1 : Int)]) (S' := S) rfl ?_
      refine es_iret rfl rfl rfl (Or.inl rfl) ?_
      have e : A 3 c r = -1 := by
        rcases (hA.2.2.2.1 c r hc.1 hc.2 hr.1 hr.2).1 with g | g
        · exact g
        · exact absurd ⟨g.2.1, g.2.2⟩ (hq _ g.1.1 (by omega))
      rw [e] at h
      exact h
    · have hpp := hR.2.2.1 p hp (by omega)
      refine es_sg 5 (p := ((0 : Int) = 0) ∧ (((0 : Int) = 0) ∧ (0 ≤ p ∧ p < 60))) (pc' := 17) (ls' := [some (aR 20 (0 : Int)), some (aI c), some (aI r), some (aI p)]) (st' := [aI c, aI (S 27 0 p)]) (S' := S) rfl ⟨rfl, ⟨rfl, (by omega)⟩⟩ ?_
      refine es_icmp rfl 32 rfl (rgI hg1 (t := 27) (i := (0 : Int)) (q := p) (by omega : 0 ≤ (0 : Int) ∧ (0 : Int) < 1) (by omega) rfl) ⟨by omega, by omega⟩ (fun (g17 : ¬ (S 27 0 p) = c) => ?_) (fun (g17 : ¬ (¬ (S 27 0 p) = c)) => ?_)
      · refine es_s0 2 (pc' := 2) (ls' := [some (aR 20 (0 : Int)), some (aI c), some (aI r), some (aI (p + 1))]) (st' := []) (S' := S) rfl ?_
        exact ih (n - 1) (by omega) (p + 1) (by omega) (by omega) (fun q q0 q1 g => by
          by_cases e : q = p
          · subst e; omega
          · exact hq q q0 (by omega) g)
      · refine es_sg 5 (p := ((0 : Int) = 0) ∧ (((0 : Int) = 0) ∧ (0 ≤ p ∧ p < 60))) (pc' := 27) (ls' := [some (aR 20 (0 : Int)), some (aI c), some (aI r), some (aI p)]) (st' := [aI r, aI (S 28 0 p)]) (S' := S) rfl ⟨rfl, ⟨rfl, (by omega)⟩⟩ ?_
        refine es_icmp rfl 32 rfl (rgI hg1 (t := 28) (i := (0 : Int)) (q := p) (by omega : 0 ≤ (0 : Int) ∧ (0 : Int) < 1) (by omega) rfl) ⟨by omega, by omega⟩ (fun (g27 : ¬ (S 28 0 p) = r) => ?_) (fun (g27 : ¬ (¬ (S 28 0 p) = r)) => ?_)
        · refine es_s0 2 (pc' := 2) (ls' := [some (aR 20 (0 : Int)), some (aI c), some (aI r), some (aI (p + 1))]) (st' := []) (S' := S) rfl ?_
          exact ih (n - 1) (by omega) (p + 1) (by omega) (by omega) (fun q q0 q1 g => by
            by_cases e : q = p
            · subst e; omega
            · exact hq q q0 (by omega) g)
        · refine es_s0 1 (pc' := 31) (ls' := [some (aR 20 (0 : Int)), some (aI c), some (aI r), some (aI p)]) (st' := [aI p]) (S' := S) rfl ?_
          refine es_iret rfl rfl rfl (Or.inl rfl) ?_
          have e : A 3 c r = p := by
            rcases (hA.2.1 p hp (by omega)).2.1 with g | g
            · omega
            · have g3 := g.2.2
              rw [show A 1 p 5 = c from by omega, show A 1 p 6 = r from by omega] at g3
              exact g3
          rw [e] at h
          exact h
theorem n40 {G : Gw} {S : Sg} {k : Nat} {Q : AQ} {A : Sg} (hA : CI A) (hR : RR A S) {c r : Int} (hc : 0 ≤ c ∧ c < 20) (hr : 0 ≤ r ∧ r < 20) (h : Q (.inl (some (aI (A 3 c r)))) S) : Es G 40 0 (aEnt 4 [aR 20 (0 : Int), aI c, aI r]) [] S (k + 0) Q := by
  refine es_rg (fun hg1 => ?_)
  refine es_s0 2 (pc' := 2) (ls' := [some (aR 20 (0 : Int)), some (aI c), some (aI r), some (aI (0 : Int))]) (st' := []) (S' := S) rfl ?_
  exact n40_l hA hR hc hr h (A 0 0 5).toNat 0 (by omega) (by have := hA.1.1; omega) (fun q q0 q1 => by omega)
theorem n56_l {G : Gw} {A S : Sg} {k : Nat} {Q : AQ} (hA : CI A) (hR : RR A S) {c : Int} (hc : 0 ≤ c ∧ c < 20) (h : Q (.inl (some (aI (A 2 c 5)))) S) : ∀ (n : Nat) (p q : Int) (_ : 0 ≤ p) (_ : p + n = A 0 0 5) (_ : 0 ≤ q ∧ q ≤ p) (_ : q + cntF (fun p => decide (A 1 p 5 = c)) n p = A 2 c 5), Es G 56 4 [some (aR 20 (0 : Int)), some (aI c), some (aI q), some (aI p)] [] S (k + 0) Q := by
  intro n
  induction n using Nat.strongRecOn with
  | _ n ih =>
    intro p q hp hn hq hs
    have n1 := hA.1.1
    have n2 := hA.1.2.1
    have n3 := hA.1.2.2
    have e1 : S 20 0 1 = A 0 0 5 := hR.1.1
    have e10 : S 20 0 10 = A 0 0 6 := hR.1.2.1
    have e17 : S 20 0 17 = A 0 0 7 := hR.1.2.2
    refine es_rg (fun hg1 => ?_)
    refine es_sg 3 (p := (0 : Int) = 0) (pc' := 9) (ls' := [some (aR 20 (0 : Int)), some (aI c), some (aI q), some (aI p)]) (st' := [aI (S 20 0 1), aI p]) (S' := S) rfl rfl ?_
    refine es_icmp rfl 36 rfl ⟨by omega, by omega⟩ (rgI hg1 (t := 20) (i := (0 : Int)) (q := (1 : Int)) (by omega : 0 ≤ (0 : Int) ∧ (0 : Int) < 1) (by omega) rfl) (fun (g9 : (S 20 0 1) ≤ p) => ?_) (fun (g9 : ¬ ((S 20 0 1) ≤ p)) => ?_)
    · refine es_s0 1 (pc' := 37) (ls' := [some (aR 20 (0 : Int)), some (aI c), some (aI q), some (aI p)]) (st' := [aI q]) (S' := S) rfl ?_
      refine es_iret rfl rfl rfl (Or.inl rfl) ?_
      have e : n = 0 := by omega
      subst e
      have hs2 : q + 0 = A 2 c 5 := hs
      rw [← hs2, show q + 0 = q from by omega] at h
      exact h
    · refine es_s0 1 (pc' := 13) (ls' := [some (aR 20 (0 : Int)), some (aI c), some (aI q), some (aI p)]) (st' := [aI q]) (S' := S) rfl ?_
      have hpp := hR.2.2.1 p hp (by omega)
      refine es_sg 5 (p := ((0 : Int) = 0) ∧ (((0 : Int) = 0) ∧ (0 ≤ p ∧ p < 60))) (pc' := 20) (ls' := [some (aR 20 (0 : Int)), some (aI c), some (aI q), some (aI p)]) (st' := [aI c, aI (S 27 0 p), aI q]) (S' := S) rfl ⟨rfl, ⟨rfl, (by omega)⟩⟩ ?_
      refine es_icmp rfl 27 rfl (rgI hg1 (t := 27) (i := (0 : Int)) (q := p) (by omega : 0 ≤ (0 : Int) ∧ (0 : Int) < 1) (by omega) rfl) ⟨by omega, by omega⟩ (fun (g20 : ¬ (S 27 0 p) = c) => ?_) (fun (g20 : ¬ (¬ (S 27 0 p) = c)) => ?_)
      · refine es_s0 5 (pc' := 4) (ls' := [some (aR 20 (0 : Int)), some (aI c), some (aI (q + 0)), some (aI (p + 1))]) (st' := []) (S' := S) rfl ?_
        obtain ⟨n, rfl⟩ : ∃ m, n = m + 1 := ⟨n - 1, by omega⟩
        have hs2 : q + ((if decide (A 1 p 5 = c) = true then 1 else 0) + cntF (fun p => decide (A 1 p 5 = c)) n (p + 1)) = A 2 c 5 := hs
        exact ih n (by omega) (p + 1) _ (by omega) (by omega) (by omega) (by first | (rw [if_pos (by simp; omega)] at hs2; omega) | (rw [if_neg (by simp; omega)] at hs2; omega))
      · refine es_s0 6 (pc' := 4) (ls' := [some (aR 20 (0 : Int)), some (aI c), some (aI (q + 1)), some (aI (p + 1))]) (st' := []) (S' := S) rfl ?_
        obtain ⟨n, rfl⟩ : ∃ m, n = m + 1 := ⟨n - 1, by omega⟩
        have hs2 : q + ((if decide (A 1 p 5 = c) = true then 1 else 0) + cntF (fun p => decide (A 1 p 5 = c)) n (p + 1)) = A 2 c 5 := hs
        exact ih n (by omega) (p + 1) _ (by omega) (by omega) (by omega) (by first | (rw [if_pos (by simp; omega)] at hs2; omega) | (rw [if_neg (by simp; omega)] at hs2; omega))
theorem n56 {G : Gw} {S : Sg} {k : Nat} {Q : AQ} {A : Sg} (hA : CI A) (hR : RR A S) {c : Int} (hc : 0 ≤ c ∧ c < 20) (h : Q (.inl (some (aI (A 2 c 5)))) S) : Es G 56 0 (aEnt 4 [aR 20 (0 : Int), aI c]) [] S (k + 0) Q := by
  refine es_rg (fun hg1 => ?_)
  refine es_s0 4 (pc' := 4) (ls' := [some (aR 20 (0 : Int)), some (aI c), some (aI (0 : Int)), some (aI (0 : Int))]) (st' := []) (S' := S) rfl ?_
  have n1 := hA.1.1
  refine n56_l hA hR hc h (A 0 0 5).toNat 0 0 (by omega) (by omega) (by omega) ?_
  rw [(hA.2.2.1 c hc.1 hc.2).2.2.2.1]
  have q := cntF_cut (f := fun p => decide (A 1 p 5 = c)) (A 0 0 5).toNat (60 - (A 0 0 5).toNat) 0 (fun q h1 h2 => by
    have := (hA.2.1 q (by omega) (by omega)).2.2.1 (by omega)
    unfold fresh at this
    have e : ¬ A 1 q 5 = c := by omega
    simp [e])
  rw [show (A 0 0 5).toNat + (60 - (A 0 0 5).toNat) = 60 from by omega] at q
  rw [q]
  omega
theorem n41 {G : Gw} {S : Sg} {k : Nat} {Q : AQ} {A : Sg} (hA : CI A) (hR : RR A S) {c p r : Int} (hc : r32 c) (hp : r32 p) (hr : r32 r) (t1 : ¬ ((0 ≤ c ∧ c < A 0 0 6) ∧ (0 ≤ p ∧ p < A 0 0 5)) → Q (.inl (some (aI 0))) (su S 20 0 0 1)) (t2 : ((0 ≤ c ∧ c < A 0 0 6) ∧ (0 ≤ p ∧ p < A 0 0 5)) ∧ ¬ (0 ≤ r ∧ r < 20) → Q (.inl (some (aI 0))) (su S 20 0 0 2)) (h0 : ((0 ≤ c ∧ c < A 0 0 6) ∧ (0 ≤ p ∧ p < A 0 0 5) ∧ (0 ≤ r ∧ r < 20)) ∧ ¬ (A 2 c 0 = -1 ∧ A 1 p 5 = -1 ∧ A 3 c r = -1) → Q (.inl (some (aI 0))) (su S 20 0 0 0)) (h1 : ((0 ≤ c ∧ c < A 0 0 6) ∧ (0 ≤ p ∧ p < A 0 0 5) ∧ (0 ≤ r ∧ r < 20)) ∧ (A 2 c 0 = -1 ∧ A 1 p 5 = -1 ∧ A 3 c r = -1) → Q (.inl (some (aI 1))) (gJoin (su S 20 0 0 0) c p r)) : Es G 41 0 (aEnt 4 [aR 20 (0 : Int), aI c, aI p, aI r]) [] S (k + 1) Q := by
  have n1 := hA.1.1
  have n2 := hA.1.2.1
  have n3 := hA.1.2.2
  have e1 : S 20 0 1 = A 0 0 5 := hR.1.1
  have e10 : S 20 0 10 = A 0 0 6 := hR.1.2.1
  have e17 : S 20 0 17 = A 0 0 7 := hR.1.2.2
  refine es_rg (fun hg1 => ?_)
  refine es_s0 3 (pc' := 3) (ls' := [some (aR 20 (0 : Int)), some (aI c), some (aI p), some (aI r)]) (st' := [aI c, aR 20 (0 : Int), aR 20 (0 : Int)]) (S' := S) rfl ?_
  refine es_callV rfl rfl 20 (0 : Int) [aI c] [aR 20 (0 : Int)] rfl rfl rfl rfl (Nat.le_of_ble_eq_true rfl) (Nat.le_of_ble_eq_true rfl) (Nat.le_of_ble_eq_true rfl) ?_
  refine n39 (S := S) (n := c) (by assumption) (fun hc3 => ?_) (fun hc3 => ?_)
  · show Es G 41 6 [some (aR 20 (0 : Int)), some (aI c), some (aI p), some (aI r)] [aI (1 : Int), aR 20 (0 : Int)] S _ _
    refine es_if rfl 17 rfl ⟨by decide, by decide⟩ (fun (g6 : (1 : Int) = (0 : Int)) => absurd g6 (by decide)) (fun (g6 : ¬ ((1 : Int) = (0 : Int))) => ?_)
    refine es_s0 2 (pc' := 11) (ls' := [some (aR 20 (0 : Int)), some (aI c), some (aI p), some (aI r)]) (st' := [aI p, aR 20 (0 : Int), aR 20 (0 : Int)]) (S' := S) rfl ?_
    refine es_callV rfl rfl 20 (0 : Int) [aI p] [aR 20 (0 : Int)] rfl rfl rfl rfl (Nat.le_of_ble_eq_true rfl) (Nat.le_of_ble_eq_true rfl) (Nat.le_of_ble_eq_true rfl) ?_
    refine n26 (S := S) (n := p) (by assumption) (fun hc11 => ?_) (fun hc11 => ?_)
    · show Es G 41 14 [some (aR 20 (0 : Int)), some (aI c), some (aI p), some (aI r)] [aI (1 : Int), aR 20 (0 : Int)] S _ _
      refine es_if rfl 21 rfl ⟨by decide, by decide⟩ (fun (g14 : ¬ (1 : Int) = (0 : Int)) => ?_) (fun (g14 : ¬ (¬ (1 : Int) = (0 : Int))) => absurd g14 (by decide))
      refine es_s0 1 (pc' := 22) (ls' := [some (aR 20 (0 : Int)), some (aI c), some (aI p), some (aI r)]) (st' := [aI r, aR 20 (0 : Int)]) (S' := S) rfl ?_
      refine es_if rfl 35 rfl (by assumption) (fun (g22 : r < (0 : Int)) => ?_) (fun (g22 : ¬ (r < (0 : Int))) => ?_)
      · refine es_sg 2 (p := ((0 : Int) = 0) ∧ (r32 (2 : Int))) (pc' := 39) (ls' := [some (aR 20 (0 : Int)), some (aI c), some (aI p), some (aI r)]) (st' := []) (S' := su S 20 0 0 2) rfl ⟨rfl, ⟨by decide, by decide⟩⟩ ?_
        refine es_rg (fun hg2 => ?_)
        refine es_sg 2 (p := (0 : Int) = 0) (pc' := 43) (ls' := [some (aR 20 (0 : Int)), some (aI c), some (aI p), some (aI r)]) (st' := [aI (2 : Int)]) (S' := su S 20 0 0 2) rfl rfl ?_
        refine es_if rfl 76 rfl ⟨by omega, by omega⟩ (fun (g43 : ¬ (2 : Int) = (0 : Int)) => ?_) (fun (g43 : ¬ (¬ (2 : Int) = (0 : Int))) => absurd g43 (by decide))
        refine es_s0 1 (pc' := 77) (ls' := [some (aR 20 (0 : Int)), some (aI c), some (aI p), some (aI r)]) (st' := [aI (0 : Int)]) (S' := su S 20 0 0 2) rfl ?_
        refine es_iret rfl rfl rfl (Or.inr ⟨rfl, (by decide)⟩) ?_
        first | exact t2 (by omega) | (exfalso; omega)
      · refine es_s0 2 (pc' := 28) (ls' := [some (aR 20 (0 : Int)), some (aI c), some (aI p), some (aI r)]) (st' := [aI (20 : Int), aI r, aR 20 (0 : Int)]) (S' := S) rfl ?_
        refine es_icmp rfl 35 rfl (by assumption) ⟨by decide, by decide⟩ (fun (g28 : (20 : Int) ≤ r) => ?_) (fun (g28 : ¬ ((20 : Int) ≤ r)) => ?_)
        · refine es_sg 2 (p := ((0 : Int) = 0) ∧ (r32 (2 : Int))) (pc' := 39) (ls' := [some (aR 20 (0 : Int)), some (aI c), some (aI p), some (aI r)]) (st' := []) (S' := su S 20 0 0 2) rfl ⟨rfl, ⟨by decide, by decide⟩⟩ ?_
          refine es_rg (fun hg3 => ?_)
          refine es_sg 2 (p := (0 : Int) = 0) (pc' := 43) (ls' := [some (aR 20 (0 : Int)), some (aI c), some (aI p), some (aI r)]) (st' := [aI (2 : Int)]) (S' := su S 20 0 0 2) rfl rfl ?_
          refine es_if rfl 76 rfl ⟨by omega, by omega⟩ (fun (g43 : ¬ (2 : Int) = (0 : Int)) => ?_) (fun (g43 : ¬ (¬ (2 : Int) = (0 : Int))) => absurd g43 (by decide))
          refine es_s0 1 (pc' := 77) (ls' := [some (aR 20 (0 : Int)), some (aI c), some (aI p), some (aI r)]) (st' := [aI (0 : Int)]) (S' := su S 20 0 0 2) rfl ?_
          refine es_iret rfl rfl rfl (Or.inr ⟨rfl, (by decide)⟩) ?_
          first | exact t2 (by omega) | (exfalso; omega)
        · refine es_sg 3 (p := ((0 : Int) = 0) ∧ (r32 (0 : Int))) (pc' := 39) (ls' := [some (aR 20 (0 : Int)), some (aI c), some (aI p), some (aI r)]) (st' := []) (S' := su S 20 0 0 0) rfl ⟨rfl, ⟨by decide, by decide⟩⟩ ?_
          refine es_rg (fun hg4 => ?_)
          refine es_sg 2 (p := (0 : Int) = 0) (pc' := 43) (ls' := [some (aR 20 (0 : Int)), some (aI c), some (aI p), some (aI r)]) (st' := [aI (0 : Int)]) (S' := su S 20 0 0 0) rfl rfl ?_
          refine es_if rfl 76 rfl ⟨by omega, by omega⟩ (fun (g43 : ¬ (0 : Int) = (0 : Int)) => absurd g43 (by decide)) (fun (g43 : ¬ (¬ (0 : Int) = (0 : Int))) => ?_)
          have hcc := (hR.2.2.2.1 c (by omega) (by omega)).1
          have hpp := (hR.2.2.1 p (by omega) (by omega)).1
          refine es_sg 5 (p := ((0 : Int) = 0) ∧ (((0 : Int) = 0) ∧ (0 ≤ c ∧ c < 20))) (pc' := 53) (ls' := [some (aR 20 (0 : Int)), some (aI c), some (aI p), some (aI r)]) (st' := [aI (-1 : Int), aI (S 31 0 c)]) (S' := su S 20 0 0 0) rfl ⟨rfl, ⟨rfl, (by omega)⟩⟩ ?_
          refine es_icmp rfl 76 rfl (rgI hg1 (t := 31) (i := (0 : Int)) (q := c) (by omega : 0 ≤ (0 : Int) ∧ (0 : Int) < 1) (by omega) rfl) ⟨by decide, by decide⟩ (fun (g53 : ¬ (S 31 0 c) = (-1 : Int)) => ?_) (fun (g53 : ¬ (¬ (S 31 0 c) = (-1 : Int))) => ?_)
          · refine es_s0 1 (pc' := 77) (ls' := [some (aR 20 (0 : Int)), some (aI c), some (aI p), some (aI r)]) (st' := [aI (0 : Int)]) (S' := su S 20 0 0 0) rfl ?_
            refine es_iret rfl rfl rfl (Or.inr ⟨rfl, (by decide)⟩) ?_
            first | exact h0 (by omega) | (exfalso; omega)
          · refine es_sg 5 (p := ((0 : Int) = 0) ∧ (((0 : Int) = 0) ∧ (0 ≤ p ∧ p < 60))) (pc' := 63) (ls' := [some (aR 20 (0 : Int)), some (aI c), some (aI p), some (aI r)]) (st' := [aI (-1 : Int), aI (S 27 0 p)]) (S' := su S 20 0 0 0) rfl ⟨rfl, ⟨rfl, (by omega)⟩⟩ ?_
            refine es_icmp rfl 76 rfl (rgI hg1 (t := 27) (i := (0 : Int)) (q := p) (by omega : 0 ≤ (0 : Int) ∧ (0 : Int) < 1) (by omega) rfl) ⟨by decide, by decide⟩ (fun (g63 : ¬ (S 27 0 p) = (-1 : Int)) => ?_) (fun (g63 : ¬ (¬ (S 27 0 p) = (-1 : Int))) => ?_)
            · refine es_s0 1 (pc' := 77) (ls' := [some (aR 20 (0 : Int)), some (aI c), some (aI p), some (aI r)]) (st' := [aI (0 : Int)]) (S' := su S 20 0 0 0) rfl ?_
              refine es_iret rfl rfl rfl (Or.inr ⟨rfl, (by decide)⟩) ?_
              first | exact h0 (by omega) | (exfalso; omega)
            · refine es_s0 3 (pc' := 69) (ls' := [some (aR 20 (0 : Int)), some (aI c), some (aI p), some (aI r)]) (st' := [aI r, aI c, aR 20 (0 : Int)]) (S' := su S 20 0 0 0) rfl ?_
              refine es_callV rfl rfl 20 (0 : Int) [aI c, aI r] [] rfl rfl rfl rfl (Nat.le_of_ble_eq_true rfl) (Nat.le_of_ble_eq_true rfl) (Nat.le_of_ble_eq_true rfl) ?_
              refine n40 (S := su S 20 0 0 0) (A := A) hA hR.thr (c := c) (r := r) (by omega) (by omega) ?_
              show Es G 41 72 [some (aR 20 (0 : Int)), some (aI c), some (aI p), some (aI r)] [aI (A 3 c r)] (su S 20 0 0 0) _ _
              refine es_s0 1 (pc' := 73) (ls' := [some (aR 20 (0 : Int)), some (aI c), some (aI p), some (aI r)]) (st' := [aI (-1 : Int), aI (A 3 c r)]) (S' := su S 20 0 0 0) rfl ?_
              refine es_icmp rfl 78 rfl (by have q := (hA.2.2.2.1 c r (by omega) (by omega) (by omega) (by omega)).1; exact ⟨by omega, by omega⟩) ⟨by decide, by decide⟩ (fun (g73 : (A 3 c r) = (-1 : Int)) => ?_) (fun (g73 : ¬ ((A 3 c r) = (-1 : Int))) => ?_)
              · refine es_sg 5 (p := ((0 : Int) = 0) ∧ ((((0 : Int) = 0) ∧ (0 ≤ p ∧ p < 60)) ∧ (r32 c))) (pc' := 85) (ls' := [some (aR 20 (0 : Int)), some (aI c), some (aI p), some (aI r)]) (st' := []) (S' := su (su S 20 0 0 0) 27 0 p c) rfl ⟨rfl, ⟨⟨rfl, (by omega)⟩, (by assumption)⟩⟩ ?_
                refine es_rg (fun hg5 => ?_)
                refine es_sg 5 (p := ((0 : Int) = 0) ∧ ((((0 : Int) = 0) ∧ (0 ≤ p ∧ p < 60)) ∧ (r32 r))) (pc' := 92) (ls' := [some (aR 20 (0 : Int)), some (aI c), some (aI p), some (aI r)]) (st' := []) (S' := su (su (su S 20 0 0 0) 27 0 p c) 28 0 p r) rfl ⟨rfl, ⟨⟨rfl, (by omega)⟩, (by assumption)⟩⟩ ?_
                refine es_rg (fun hg6 => ?_)
                refine es_s0 1 (pc' := 93) (ls' := [some (aR 20 (0 : Int)), some (aI c), some (aI p), some (aI r)]) (st' := [aI (1 : Int)]) (S' := su (su (su S 20 0 0 0) 27 0 p c) 28 0 p r) rfl ?_
                refine es_iret rfl rfl rfl (Or.inr ⟨rfl, (by decide)⟩) ?_
                first | exact h1 (by omega) | (exfalso; omega)
              · refine es_s0 1 (pc' := 77) (ls' := [some (aR 20 (0 : Int)), some (aI c), some (aI p), some (aI r)]) (st' := [aI (0 : Int)]) (S' := su S 20 0 0 0) rfl ?_
                refine es_iret rfl rfl rfl (Or.inr ⟨rfl, (by decide)⟩) ?_
                first | exact h0 (by omega) | (exfalso; omega)
    · show Es G 41 14 [some (aR 20 (0 : Int)), some (aI c), some (aI p), some (aI r)] [aI (0 : Int), aR 20 (0 : Int)] S _ _
      refine es_if rfl 21 rfl ⟨by decide, by decide⟩ (fun (g14 : ¬ (0 : Int) = (0 : Int)) => absurd g14 (by decide)) (fun (g14 : ¬ (¬ (0 : Int) = (0 : Int))) => ?_)
      refine es_sg 3 (p := ((0 : Int) = 0) ∧ (r32 (1 : Int))) (pc' := 39) (ls' := [some (aR 20 (0 : Int)), some (aI c), some (aI p), some (aI r)]) (st' := []) (S' := su S 20 0 0 1) rfl ⟨rfl, ⟨by decide, by decide⟩⟩ ?_
      refine es_rg (fun hg7 => ?_)
      refine es_sg 2 (p := (0 : Int) = 0) (pc' := 43) (ls' := [some (aR 20 (0 : Int)), some (aI c), some (aI p), some (aI r)]) (st' := [aI (1 : Int)]) (S' := su S 20 0 0 1) rfl rfl ?_
      refine es_if rfl 76 rfl ⟨by omega, by omega⟩ (fun (g43 : ¬ (1 : Int) = (0 : Int)) => ?_) (fun (g43 : ¬ (¬ (1 : Int) = (0 : Int))) => absurd g43 (by decide))
      refine es_s0 1 (pc' := 77) (ls' := [some (aR 20 (0 : Int)), some (aI c), some (aI p), some (aI r)]) (st' := [aI (0 : Int)]) (S' := su S 20 0 0 1) rfl ?_
      refine es_iret rfl rfl rfl (Or.inr ⟨rfl, (by decide)⟩) ?_
      first | exact t1 (by omega) | (exfalso; omega)
  · show Es G 41 6 [some (aR 20 (0 : Int)), some (aI c), some (aI p), some (aI r)] [aI (0 : Int), aR 20 (0 : Int)] S _ _
    refine es_if rfl 17 rfl ⟨by decide, by decide⟩ (fun (g6 : (0 : Int) = (0 : Int)) => ?_) (fun (g6 : ¬ ((0 : Int) = (0 : Int))) => absurd g6 (by decide))
    refine es_sg 3 (p := ((0 : Int) = 0) ∧ (r32 (1 : Int))) (pc' := 39) (ls' := [some (aR 20 (0 : Int)), some (aI c), some (aI p), some (aI r)]) (st' := []) (S' := su S 20 0 0 1) rfl ⟨rfl, ⟨by decide, by decide⟩⟩ ?_
    refine es_rg (fun hg8 => ?_)
    refine es_sg 2 (p := (0 : Int) = 0) (pc' := 43) (ls' := [some (aR 20 (0 : Int)), some (aI c), some (aI p), some (aI r)]) (st' := [aI (1 : Int)]) (S' := su S 20 0 0 1) rfl rfl ?_
    refine es_if rfl 76 rfl ⟨by omega, by omega⟩ (fun (g43 : ¬ (1 : Int) = (0 : Int)) => ?_) (fun (g43 : ¬ (¬ (1 : Int) = (0 : Int))) => absurd g43 (by decide))
    refine es_s0 1 (pc' := 77) (ls' := [some (aR 20 (0 : Int)), some (aI c), some (aI p), some (aI r)]) (st' := [aI (0 : Int)]) (S' := su S 20 0 0 1) rfl ?_
    refine es_iret rfl rfl rfl (Or.inr ⟨rfl, (by decide)⟩) ?_
    first | exact t1 (by omega) | (exfalso; omega)
theorem n75_l {G : Gw} {A S : Sg} {k : Nat} {Q : AQ} (hA : CI A) (hR : RR A S) {kk : Int} (hk : r32 kk) : ∀ (n : Nat) (p q : Int) (_ : 0 ≤ p) (_ : p + n = A 0 0 5) (_ : kk - p ≤ q ∧ q ≤ kk) (_ : Q (.inl (some (aI (if kk < 0 then -1 else nthF (bt (A 0 0 8)) n p q)))) S), Es G 75 9 [some (aR 20 (0 : Int)), some (aI kk), some (aI q), some (aI p)] [] S (k + 0) Q := by
  intro n
  induction n using Nat.strongRecOn with
  | _ n ih =>
    intro p q hp hn hq h
    have n1 := hA.1.1
    have n2 := hA.1.2.1
    have n3 := hA.1.2.2
    have e1 : S 20 0 1 = A 0 0 5 := hR.1.1
    have e10 : S 20 0 10 = A 0 0 6 := hR.1.2.1
    have e17 : S 20 0 17 = A 0 0 7 := hR.1.2.2
    have hk2 := hk
    unfold r32 at hk2
    refine es_rg (fun hg1 => ?_)
    refine es_sg 3 (p := (0 : Int) = 0) (pc' := 14) (ls' := [some (aR 20 (0 : Int)), some (aI kk), some (aI q), some (aI p)]) (st' := [aI (S 20 0 1), aI p]) (S' := S) rfl rfl ?_
    refine es_icmp rfl 48 rfl ⟨by omega, by omega⟩ (rgI hg1 (t := 20) (i := (0 : Int)) (q := (1 : Int)) (by omega : 0 ≤ (0 : Int) ∧ (0 : Int) < 1) (by omega) rfl) (fun (g14 : (S 20 0 1) ≤ p) => ?_) (fun (g14 : ¬ ((S 20 0 1) ≤ p)) => ?_)
    · refine es_s0 1 (pc' := 49) (ls' := [some (aR 20 (0 : Int)), some (aI kk), some (aI q), some (aI p)]) (st' := [aI (-1 : Int)]) (S' := S) rfl ?_
      refine es_iret rfl rfl rfl (Or.inl rfl) ?_
      by_cases hkk : kk < 0
      · rw [if_pos hkk] at h; exact h
      · have e : n = 0 := by omega
        subst e
        rw [if_neg hkk] at h; exact h
    · refine es_s0 1 (pc' := 18) (ls' := [some (aR 20 (0 : Int)), some (aI kk), some (aI q), some (aI p)]) (st' := [aI kk]) (S' := S) rfl ?_
      refine es_if rfl 48 rfl hk (fun (g18 : kk < (0 : Int)) => ?_) (fun (g18 : ¬ (kk < (0 : Int))) => ?_)
      · refine es_s0 1 (pc' := 49) (ls' := [some (aR 20 (0 : Int)), some (aI kk), some (aI q), some (aI p)]) (st' := [aI (-1 : Int)]) (S' := S) rfl ?_
        refine es_iret rfl rfl rfl (Or.inl rfl) ?_
        by_cases hkk : kk < 0
        · rw [if_pos hkk] at h; exact h
        · have e : n = 0 := by omega
          subst e
          rw [if_neg hkk] at h; exact h
      · have ht := hR.2.2.2.2.1 p hp (by omega)
        have htb : ¬ S 36 0 p = 0 ↔ bt (A 0 0 8) p = true := by rw [ht]; unfold b01; split <;> simp_all
        refine es_sg 4 (p := ((0 : Int) = 0) ∧ (((0 : Int) = 0) ∧ (0 ≤ p ∧ p < 60))) (pc' := 27) (ls' := [some (aR 20 (0 : Int)), some (aI kk), some (aI q), some (aI p)]) (st' := [aI (S 36 0 p)]) (S' := S) rfl ⟨rfl, ⟨rfl, (by omega)⟩⟩ ?_
        refine es_if rfl 33 rfl (r32_z (rgZ hg1 (t := 36) (i := (0 : Int)) (q := p) (by omega : 0 ≤ (0 : Int) ∧ (0 : Int) < 1) (by omega) rfl)) (fun (g27 : ¬ (S 36 0 p) = (0 : Int)) => ?_) (fun (g27 : ¬ (¬ (S 36 0 p) = (0 : Int))) => ?_)
        · refine es_s0 1 (pc' := 34) (ls' := [some (aR 20 (0 : Int)), some (aI kk), some (aI q), some (aI p)]) (st' := [aI q]) (S' := S) rfl ?_
          refine es_if rfl 39 rfl ⟨by omega, by omega⟩ (fun (g34 : ¬ q = (0 : Int)) => ?_) (fun (g34 : ¬ (¬ q = (0 : Int))) => ?_)
          · refine es_s0 3 (pc' := 9) (ls' := [some (aR 20 (0 : Int)), some (aI kk), some (aI (q + (-1))), some (aI (p + 1))]) (st' := []) (S' := S) rfl ?_
            obtain ⟨n, rfl⟩ : ∃ m, n = m + 1 := ⟨n - 1, by omega⟩
            rw [if_neg (by omega), nthF_next (htb.mp (by omega)) (by omega)] at h
            exact ih n (by omega) (p + 1) _ (by omega) (by omega) (by omega) (by rw [if_neg (by omega), show q + (-1) = q - 1 from by omega]; exact h)
          · refine es_s0 1 (pc' := 38) (ls' := [some (aR 20 (0 : Int)), some (aI kk), some (aI q), some (aI p)]) (st' := [aI p]) (S' := S) rfl ?_
            refine es_iret rfl rfl rfl (Or.inl rfl) ?_
            obtain ⟨n, rfl⟩ : ∃ m, n = m + 1 := ⟨n - 1, by omega⟩
            rw [if_neg (by omega), nthF_hit (htb.mp (by omega)) (by omega)] at h
            exact h
        · refine es_s0 3 (pc' := 9) (ls' := [some (aR 20 (0 : Int)), some (aI kk), some (aI q), some (aI (p + 1))]) (st' := []) (S' := S) rfl ?_
          obtain ⟨n, rfl⟩ : ∃ m, n = m + 1 := ⟨n - 1, by omega⟩
          rw [if_neg (by omega), nthF_skip (fun g => by have := htb.mpr g; omega)] at h
          exact ih n (by omega) (p + 1) q (by omega) (by omega) (by omega) (by rw [if_neg (by omega)]; exact h)
theorem n75 {G : Gw} {S : Sg} {k : Nat} {Q : AQ} {A : Sg} (hA : CI A) (hR : RR A S) {kk : Int} (hk : r32 kk) (h : Q (.inl (some (aI (nthF (bt (A 0 0 8)) (A 0 0 5).toNat 0 kk)))) (su S 20 0 0 0)) : Es G 75 0 (aEnt 4 [aR 20 (0 : Int), aI kk]) [] S (k + 0) Q := by
  have n1 := hA.1.1
  have n2 := hA.1.2.1
  have n3 := hA.1.2.2
  have e1 : S 20 0 1 = A 0 0 5 := hR.1.1
  have e10 : S 20 0 10 = A 0 0 6 := hR.1.2.1
  have e17 : S 20 0 17 = A 0 0 7 := hR.1.2.2
  refine es_rg (fun hg1 => ?_)
  refine es_sg 3 (p := ((0 : Int) = 0) ∧ (r32 (0 : Int))) (pc' := 5) (ls' := [some (aR 20 (0 : Int)), some (aI kk), none, none]) (st' := []) (S' := su S 20 0 0 0) rfl ⟨rfl, ⟨by decide, by decide⟩⟩ ?_
  refine es_rg (fun hg2 => ?_)
  refine es_s0 4 (pc' := 9) (ls' := [some (aR 20 (0 : Int)), some (aI kk), some (aI kk), some (aI (0 : Int))]) (st' := []) (S' := su S 20 0 0 0) rfl ?_
  refine n75_l hA hR.thr hk (A 0 0 5).toNat 0 kk (by omega) (by omega) (by omega) ?_
  split
  · rw [nthF_neg _ _ (by omega)] at h; exact h
  · exact h
theorem in_rm {A S : Sg} {r p : Int} (hR : RR A S) (hr : 0 ≤ r ∧ r < A 0 0 7) (hp : 0 ≤ p ∧ p < 60) : inRm A r p ↔ ((S 38 0 (4 * r) ≤ S 24 0 p ∧ S 38 0 (4 * r + 1) ≤ S 25 0 p) ∧ (S 24 0 p + rW S p ≤ S 38 0 (4 * r + 2) ∧ S 25 0 p + rH S p ≤ S 38 0 (4 * r + 3))) := by
  obtain ⟨a1, a2, a3, a4, a5, a6⟩ := hR.2.1 p hp.1 hp.2
  obtain ⟨b1, b2, b3, b4⟩ := hR.2.2.2.2.2.1.1 r hr.1 hr.2
  obtain ⟨c1, c2⟩ := rWH hR hp
  unfold inRm
  rw [a3, a4, b1, b2, b3, b4, c1, c2]
  omega
theorem n89_l {G : Gw} {A S : Sg} {k : Nat} {Q : AQ} (hA : CI A) (hR : RR A S) {r kk : Int} (hr : 0 ≤ r ∧ r < A 0 0 7) (hk : r32 kk) : ∀ (n : Nat) (p q : Int) (o : Option AV) (_ : 0 ≤ p) (_ : p + n = A 0 0 5) (_ : kk - p ≤ q ∧ q ≤ kk) (_ : Q (.inl (some (aI (if kk < 0 then -1 else nthF (outF A r) n p q)))) S), Es G 89 36 [some (aR 20 (0 : Int)), some (aI r), some (aI kk), some (aI q), some (aI (4 * r)), some (aI p), o] [] S (k + 1) Q := by
  intro n
  induction n using Nat.strongRecOn with
  | _ n ih =>
    intro p q o hp hn hq h
    have n1 := hA.1.1
    have n2 := hA.1.2.1
    have n3 := hA.1.2.2
    have e1 : S 20 0 1 = A 0 0 5 := hR.1.1
    have e10 : S 20 0 10 = A 0 0 6 := hR.1.2.1
    have e17 : S 20 0 17 = A 0 0 7 := hR.1.2.2
    have hk2 := hk
    unfold r32 at hk2
    refine es_rg (fun hg1 => ?_)
    refine es_sg 3 (p := (0 : Int) = 0) (pc' := 42) (ls' := [some (aR 20 (0 : Int)), some (aI r), some (aI kk), some (aI q), some (aI (4 * r)), some (aI p), o]) (st' := [aI (S 20 0 1), aI p]) (S' := S) rfl rfl ?_
    refine es_icmp rfl 187 rfl ⟨by omega, by omega⟩ (rgI hg1 (t := 20) (i := (0 : Int)) (q := (1 : Int)) (by omega : 0 ≤ (0 : Int) ∧ (0 : Int) < 1) (by omega) rfl) (fun (g42 : (S 20 0 1) ≤ p) => ?_) (fun (g42 : ¬ ((S 20 0 1) ≤ p)) => ?_)
    · refine es_s0 1 (pc' := 188) (ls' := [some (aR 20 (0 : Int)), some (aI r), some (aI kk), some (aI q), some (aI (4 * r)), some (aI p), o]) (st' := [aI (-1 : Int)]) (S' := S) rfl ?_
      refine es_iret rfl rfl rfl (Or.inl rfl) ?_
      by_cases hkk : kk < 0
      · rw [if_pos hkk] at h; exact h
      · have e : n = 0 := by omega
        subst e
        rw [if_neg hkk] at h; exact h
    · refine es_s0 1 (pc' := 46) (ls' := [some (aR 20 (0 : Int)), some (aI r), some (aI kk), some (aI q), some (aI (4 * r)), some (aI p), o]) (st' := [aI kk]) (S' := S) rfl ?_
      refine es_if rfl 187 rfl hk (fun (g46 : kk < (0 : Int)) => ?_) (fun (g46 : ¬ (kk < (0 : Int))) => ?_)
      · refine es_s0 1 (pc' := 188) (ls' := [some (aR 20 (0 : Int)), some (aI r), some (aI kk), some (aI q), some (aI (4 * r)), some (aI p), o]) (st' := [aI (-1 : Int)]) (S' := S) rfl ?_
        refine es_iret rfl rfl rfl (Or.inl rfl) ?_
        by_cases hkk : kk < 0
        · rw [if_pos hkk] at h; exact h
        · have e : n = 0 := by omega
          subst e
          rw [if_neg hkk] at h; exact h
      · have hin := in_rm (r := r) (p := p) hR hr (by omega)
        obtain ⟨a1, a2, a3, a4, a5, a6⟩ := hR.2.1 p hp (by omega)
        obtain ⟨c1, c2⟩ := rWH hR (i := p) (by omega)
        have hx := (hA.2.1 p hp (by omega)).1
        have hw := pW_b hx
        have hh := pH_b hx
        have hx2 := hx
        unfold okXY at hx2
        have hbb := hR.2.2.2.2.2.1.2 r p hr.1 (by omega) hp (by omega)
        have hb : ¬ S 39 0 (60 * r + p) = 0 ↔ bt (A 4 r 4) p = true := by rw [hbb]; unfold b01; split <;> simp_all
        refine es_sg 6 (p := ((0 : Int) = 0) ∧ ((((0 : Int) = 0) ∧ (0 ≤ p ∧ p < 60)) ∧ ((0 : Int) = 0))) (pc' := 60) (ls' := [some (aR 20 (0 : Int)), some (aI r), some (aI kk), some (aI q), some (aI (4 * r)), some (aI p), o]) (st' := [aR 38 (0 : Int), aL (S 24 0 p)]) (S' := S) rfl ⟨rfl, ⟨rfl, (by omega)⟩, rfl⟩ ?_
        refine es_sg 2 (p := ((0 : Int) = 0) ∧ (0 ≤ (4 * r) ∧ (4 * r) < 40)) (pc' := 63) (ls' := [some (aR 20 (0 : Int)), some (aI r), some (aI kk), some (aI q), some (aI (4 * r)), some (aI p), o]) (st' := [aL (S 38 0 (4 * r)), aL (S 24 0 p)]) (S' := S) rfl ⟨rfl, (by omega)⟩ ?_
        refine es_lif rfl rfl 145 rfl (rgL hg1 (t := 24) (i := (0 : Int)) (q := p) (by omega : 0 ≤ (0 : Int) ∧ (0 : Int) < 1) (by omega) rfl) (rgL hg1 (t := 38) (i := (0 : Int)) (q := (4 * r)) (by omega : 0 ≤ (0 : Int) ∧ (0 : Int) < 1) (by omega) rfl) (fun (g63 : (S 24 0 p) < (S 38 0 (4 * r))) => ?_) (fun (g63 : ¬ ((S 24 0 p) < (S 38 0 (4 * r)))) => ?_)
        · refine es_sg 6 (p := (0 : Int) = 0) (pc' := 155) (ls' := [some (aR 20 (0 : Int)), some (aI r), some (aI kk), some (aI q), some (aI (4 * r)), some (aI p), some (aI (0 : Int))]) (st' := [aI r, aI (60 : Int), aR 39 (0 : Int)]) (S' := S) rfl rfl ?_
          refine es_sg 4 (p := ((0 : Int) = 0) ∧ (0 ≤ ((60 * r) + p) ∧ ((60 * r) + p) < 600)) (pc' := 160) (ls' := [some (aR 20 (0 : Int)), some (aI r), some (aI kk), some (aI q), some (aI (4 * r)), some (aI p), some (aI (0 : Int))]) (st' := [aI (S 39 0 ((60 * r) + p))]) (S' := S) rfl ⟨rfl, (by omega)⟩ ?_
          refine es_if rfl 181 rfl (r32_z (rgZ hg1 (t := 39) (i := (0 : Int)) (q := ((60 * r) + p)) (by omega : 0 ≤ (0 : Int) ∧ (0 : Int) < 1) (by omega) rfl)) (fun (g160 : (S 39 0 ((60 * r) + p)) = (0 : Int)) => ?_) (fun (g160 : ¬ ((S 39 0 ((60 * r) + p)) = (0 : Int))) => ?_)
          · refine es_s0 2 (pc' := 36) (ls' := [some (aR 20 (0 : Int)), some (aI r), some (aI kk), some (aI q), some (aI (4 * r)), some (aI (p + 1)), some (aI (0 : Int))]) (st' := []) (S' := S) rfl ?_
            obtain ⟨n, rfl⟩ : ∃ m, n = m + 1 := ⟨n - 1, by omega⟩
            rw [if_neg (by omega), nthF_skip (fun g => by have g1 := hb.mpr (outF_iff.mp g).1; have g2 := (outF_iff.mp g).2; rw [hin] at g2; omega)] at h
            exact ih n (by omega) (p + 1) q _ (by omega) (by omega) (by omega) (by rw [if_neg (by omega)]; exact h)
          · refine es_s0 1 (pc' := 165) (ls' := [some (aR 20 (0 : Int)), some (aI r), some (aI kk), some (aI q), some (aI (4 * r)), some (aI p), some (aI (0 : Int))]) (st' := [aI (0 : Int)]) (S' := S) rfl ?_
            refine es_if rfl 171 rfl ⟨by decide, by decide⟩ (fun (g165 : (0 : Int) = (0 : Int)) => ?_) (fun (g165 : ¬ ((0 : Int) = (0 : Int))) => absurd g165 (by decide))
            refine es_s0 1 (pc' := 172) (ls' := [some (aR 20 (0 : Int)), some (aI r), some (aI kk), some (aI q), some (aI (4 * r)), some (aI p), some (aI (0 : Int))]) (st' := [aI q]) (S' := S) rfl ?_
            refine es_if rfl 178 rfl ⟨by omega, by omega⟩ (fun (g172 : ¬ q = (0 : Int)) => ?_) (fun (g172 : ¬ (¬ q = (0 : Int))) => ?_)
            · refine es_s0 3 (pc' := 36) (ls' := [some (aR 20 (0 : Int)), some (aI r), some (aI kk), some (aI (q + (-1))), some (aI (4 * r)), some (aI (p + 1)), some (aI (0 : Int))]) (st' := []) (S' := S) rfl ?_
              obtain ⟨n, rfl⟩ : ∃ m, n = m + 1 := ⟨n - 1, by omega⟩
              rw [if_neg (by omega), nthF_next (outF_iff.mpr ⟨hb.mp (by omega), fun g => by have := hin.mp g; omega⟩) (by omega)] at h
              exact ih n (by omega) (p + 1) _ _ (by omega) (by omega) (by omega) (by rw [if_neg (by omega), show q + (-1) = q - 1 from by omega]; exact h)
            · refine es_s0 1 (pc' := 177) (ls' := [some (aR 20 (0 : Int)), some (aI r), some (aI kk), some (aI q), some (aI (4 * r)), some (aI p), some (aI (0 : Int))]) (st' := [aI p]) (S' := S) rfl ?_
              refine es_iret rfl rfl rfl (Or.inl rfl) ?_
              obtain ⟨n, rfl⟩ : ∃ m, n = m + 1 := ⟨n - 1, by omega⟩
              rw [if_neg (by omega), nthF_hit (outF_iff.mpr ⟨hb.mp (by omega), fun g => by have := hin.mp g; omega⟩) (by omega)] at h
              exact h
        · refine es_sg 6 (p := ((0 : Int) = 0) ∧ ((((0 : Int) = 0) ∧ (0 ≤ p ∧ p < 60)) ∧ ((0 : Int) = 0))) (pc' := 78) (ls' := [some (aR 20 (0 : Int)), some (aI r), some (aI kk), some (aI q), some (aI (4 * r)), some (aI p), o]) (st' := [aR 38 (0 : Int), aL (S 25 0 p)]) (S' := S) rfl ⟨rfl, ⟨rfl, (by omega)⟩, rfl⟩ ?_
          refine es_sg 4 (p := ((0 : Int) = 0) ∧ (0 ≤ ((4 * r) + 1) ∧ ((4 * r) + 1) < 40)) (pc' := 83) (ls' := [some (aR 20 (0 : Int)), some (aI r), some (aI kk), some (aI q), some (aI (4 * r)), some (aI p), o]) (st' := [aL (S 38 0 ((4 * r) + 1)), aL (S 25 0 p)]) (S' := S) rfl ⟨rfl, (by omega)⟩ ?_
          refine es_lif rfl rfl 145 rfl (rgL hg1 (t := 25) (i := (0 : Int)) (q := p) (by omega : 0 ≤ (0 : Int) ∧ (0 : Int) < 1) (by omega) rfl) (rgL hg1 (t := 38) (i := (0 : Int)) (q := ((4 * r) + 1)) (by omega : 0 ≤ (0 : Int) ∧ (0 : Int) < 1) (by omega) rfl) (fun (g83 : (S 25 0 p) < (S 38 0 ((4 * r) + 1))) => ?_) (fun (g83 : ¬ ((S 25 0 p) < (S 38 0 ((4 * r) + 1)))) => ?_)
          · refine es_sg 6 (p := (0 : Int) = 0) (pc' := 155) (ls' := [some (aR 20 (0 : Int)), some (aI r), some (aI kk), some (aI q), some (aI (4 * r)), some (aI p), some (aI (0 : Int))]) (st' := [aI r, aI (60 : Int), aR 39 (0 : Int)]) (S' := S) rfl rfl ?_
            refine es_sg 4 (p := ((0 : Int) = 0) ∧ (0 ≤ ((60 * r) + p) ∧ ((60 * r) + p) < 600)) (pc' := 160) (ls' := [some (aR 20 (0 : Int)), some (aI r), some (aI kk), some (aI q), some (aI (4 * r)), some (aI p), some (aI (0 : Int))]) (st' := [aI (S 39 0 ((60 * r) + p))]) (S' := S) rfl ⟨rfl, (by omega)⟩ ?_
            refine es_if rfl 181 rfl (r32_z (rgZ hg1 (t := 39) (i := (0 : Int)) (q := ((60 * r) + p)) (by omega : 0 ≤ (0 : Int) ∧ (0 : Int) < 1) (by omega) rfl)) (fun (g160 : (S 39 0 ((60 * r) + p)) = (0 : Int)) => ?_) (fun (g160 : ¬ ((S 39 0 ((60 * r) + p)) = (0 : Int))) => ?_)
            · refine es_s0 2 (pc' := 36) (ls' := [some (aR 20 (0 : Int)), some (aI r), some (aI kk), some (aI q), some (aI (4 * r)), some (aI (p + 1)), some (aI (0 : Int))]) (st' := []) (S' := S) rfl ?_
              obtain ⟨n, rfl⟩ : ∃ m, n = m + 1 := ⟨n - 1, by omega⟩
              rw [if_neg (by omega), nthF_skip (fun g => by have g1 := hb.mpr (outF_iff.mp g).1; have g2 := (outF_iff.mp g).2; rw [hin] at g2; omega)] at h
              exact ih n (by omega) (p + 1) q _ (by omega) (by omega) (by omega) (by rw [if_neg (by omega)]; exact h)
            · refine es_s0 1 (pc' := 165) (ls' := [some (aR 20 (0 : Int)), some (aI r), some (aI kk), some (aI q), some (aI (4 * r)), some (aI p), some (aI (0 : Int))]) (st' := [aI (0 : Int)]) (S' := S) rfl ?_
              refine es_if rfl 171 rfl ⟨by decide, by decide⟩ (fun (g165 : (0 : Int) = (0 : Int)) => ?_) (fun (g165 : ¬ ((0 : Int) = (0 : Int))) => absurd g165 (by decide))
              refine es_s0 1 (pc' := 172) (ls' := [some (aR 20 (0 : Int)), some (aI r), some (aI kk), some (aI q), some (aI (4 * r)), some (aI p), some (aI (0 : Int))]) (st' := [aI q]) (S' := S) rfl ?_
              refine es_if rfl 178 rfl ⟨by omega, by omega⟩ (fun (g172 : ¬ q = (0 : Int)) => ?_) (fun (g172 : ¬ (¬ q = (0 : Int))) => ?_)
              · refine es_s0 3 (pc' := 36) (ls' := [some (aR 20 (0 : Int)), some (aI r), some (aI kk), some (aI (q + (-1))), some (aI (4 * r)), some (aI (p + 1)), some (aI (0 : Int))]) (st' := []) (S' := S) rfl ?_
                obtain ⟨n, rfl⟩ : ∃ m, n = m + 1 := ⟨n - 1, by omega⟩
                rw [if_neg (by omega), nthF_next (outF_iff.mpr ⟨hb.mp (by omega), fun g => by have := hin.mp g; omega⟩) (by omega)] at h
                exact ih n (by omega) (p + 1) _ _ (by omega) (by omega) (by omega) (by rw [if_neg (by omega), show q + (-1) = q - 1 from by omega]; exact h)
              · refine es_s0 1 (pc' := 177) (ls' := [some (aR 20 (0 : Int)), some (aI r), some (aI kk), some (aI q), some (aI (4 * r)), some (aI p), some (aI (0 : Int))]) (st' := [aI p]) (S' := S) rfl ?_
                refine es_iret rfl rfl rfl (Or.inl rfl) ?_
                obtain ⟨n, rfl⟩ : ∃ m, n = m + 1 := ⟨n - 1, by omega⟩
                rw [if_neg (by omega), nthF_hit (outF_iff.mpr ⟨hb.mp (by omega), fun g => by have := hin.mp g; omega⟩) (by omega)] at h
                exact h
          · refine es_sg 6 (p := ((0 : Int) = 0) ∧ (((0 : Int) = 0) ∧ (0 ≤ p ∧ p < 60))) (pc' := 97) (ls' := [some (aR 20 (0 : Int)), some (aI r), some (aI kk), some (aI q), some (aI (4 * r)), some (aI p), o]) (st' := [aI p, aR 20 (0 : Int), aL (S 24 0 p)]) (S' := S) rfl ⟨rfl, ⟨rfl, (by omega)⟩⟩ ?_
            refine es_callV rfl rfl 20 (0 : Int) [aI p] [aL (S 24 0 p)] rfl rfl rfl rfl (Nat.le_of_ble_eq_true rfl) (Nat.le_of_ble_eq_true rfl) (Nat.le_of_ble_eq_true rfl) ?_
            refine n57 (S := S) (i := p) (by omega) (show 0 ≤ S 26 0 p ∧ S 26 0 p < 4 from by omega) ?_
            show Es G 89 100 [some (aR 20 (0 : Int)), some (aI r), some (aI kk), some (aI q), some (aI (4 * r)), some (aI p), o] [aL (rW S p), aL (S 24 0 p)] S _ _
            refine es_sg 6 (p := (0 : Int) = 0) (pc' := 109) (ls' := [some (aR 20 (0 : Int)), some (aI r), some (aI kk), some (aI q), some (aI (4 * r)), some (aI p), o]) (st' := [aI ((4 * r) + 2), aR 38 (0 : Int), aL ((S 24 0 p) + (rW S p))]) (S' := S) rfl rfl ?_
            refine es_sg 1 (p := ((0 : Int) = 0) ∧ (0 ≤ ((4 * r) + 2) ∧ ((4 * r) + 2) < 40)) (pc' := 110) (ls' := [some (aR 20 (0 : Int)), some (aI r), some (aI kk), some (aI q), some (aI (4 * r)), some (aI p), o]) (st' := [aL (S 38 0 ((4 * r) + 2)), aL ((S 24 0 p) + (rW S p))]) (S' := S) rfl ⟨rfl, (by omega)⟩ ?_
            refine es_lif rfl rfl 145 rfl ⟨by omega, by omega⟩ (rgL hg1 (t := 38) (i := (0 : Int)) (q := ((4 * r) + 2)) (by omega : 0 ≤ (0 : Int) ∧ (0 : Int) < 1) (by omega) rfl) (fun (g110 : (S 38 0 ((4 * r) + 2)) < ((S 24 0 p) + (rW S p))) => ?_) (fun (g110 : ¬ ((S 38 0 ((4 * r) + 2)) < ((S 24 0 p) + (rW S p)))) => ?_)
            · refine es_sg 6 (p := (0 : Int) = 0) (pc' := 155) (ls' := [some (aR 20 (0 : Int)), some (aI r), some (aI kk), some (aI q), some (aI (4 * r)), some (aI p), some (aI (0 : Int))]) (st' := [aI r, aI (60 : Int), aR 39 (0 : Int)]) (S' := S) rfl rfl ?_
              refine es_sg 4 (p := ((0 : Int) = 0) ∧ (0 ≤ ((60 * r) + p) ∧ ((60 * r) + p) < 600)) (pc' := 160) (ls' := [some (aR 20 (0 : Int)), some (aI r), some (aI kk), some (aI q), some (aI (4 * r)), some (aI p), some (aI (0 : Int))]) (st' := [aI (S 39 0 ((60 * r) + p))]) (S' := S) rfl ⟨rfl, (by omega)⟩ ?_
              refine es_if rfl 181 rfl (r32_z (rgZ hg1 (t := 39) (i := (0 : Int)) (q := ((60 * r) + p)) (by omega : 0 ≤ (0 : Int) ∧ (0 : Int) < 1) (by omega) rfl)) (fun (g160 : (S 39 0 ((60 * r) + p)) = (0 : Int)) => ?_) (fun (g160 : ¬ ((S 39 0 ((60 * r) + p)) = (0 : Int))) => ?_)
              · refine es_s0 2 (pc' := 36) (ls' := [some (aR 20 (0 : Int)), some (aI r), some (aI kk), some (aI q), some (aI (4 * r)), some (aI (p + 1)), some (aI (0 : Int))]) (st' := []) (S' := S) rfl ?_
                obtain ⟨n, rfl⟩ : ∃ m, n = m + 1 := ⟨n - 1, by omega⟩
                rw [if_neg (by omega), nthF_skip (fun g => by have g1 := hb.mpr (outF_iff.mp g).1; have g2 := (outF_iff.mp g).2; rw [hin] at g2; omega)] at h
                exact ih n (by omega) (p + 1) q _ (by omega) (by omega) (by omega) (by rw [if_neg (by omega)]; exact h)
              · refine es_s0 1 (pc' := 165) (ls' := [some (aR 20 (0 : Int)), some (aI r), some (aI kk), some (aI q), some (aI (4 * r)), some (aI p), some (aI (0 : Int))]) (st' := [aI (0 : Int)]) (S' := S) rfl ?_
                refine es_if rfl 171 rfl ⟨by decide, by decide⟩ (fun (g165 : (0 : Int) = (0 : Int)) => ?_) (fun (g165 : ¬ ((0 : Int) = (0 : Int))) => absurd g165 (by decide))
                refine es_s0 1 (pc' := 172) (ls' := [some (aR 20 (0 : Int)), some (aI r), some (aI kk), some (aI q), some (aI (4 * r)), some (aI p), some (aI (0 : Int))]) (st' := [aI q]) (S' := S) rfl ?_
                refine es_if rfl 178 rfl ⟨by omega, by omega⟩ (fun (g172 : ¬ q = (0 : Int)) => ?_) (fun (g172 : ¬ (¬ q = (0 : Int))) => ?_)
                · refine es_s0 3 (pc' := 36) (ls' := [some (aR 20 (0 : Int)), some (aI r), some (aI kk), some (aI (q + (-1))), some (aI (4 * r)), some (aI (p + 1)), some (aI (0 : Int))]) (st' := []) (S' := S) rfl ?_
                  obtain ⟨n, rfl⟩ : ∃ m, n = m + 1 := ⟨n - 1, by omega⟩
                  rw [if_neg (by omega), nthF_next (outF_iff.mpr ⟨hb.mp (by omega), fun g => by have := hin.mp g; omega⟩) (by omega)] at h
                  exact ih n (by omega) (p + 1) _ _ (by omega) (by omega) (by omega) (by rw [if_neg (by omega), show q + (-1) = q - 1 from by omega]; exact h)
                · refine es_s0 1 (pc' := 177) (ls' := [some (aR 20 (0 : Int)), some (aI r), some (aI kk), some (aI q), some (aI (4 * r)), some (aI p), some (aI (0 : Int))]) (st' := [aI p]) (S' := S) rfl ?_
                  refine es_iret rfl rfl rfl (Or.inl rfl) ?_
                  obtain ⟨n, rfl⟩ : ∃ m, n = m + 1 := ⟨n - 1, by omega⟩
                  rw [if_neg (by omega), nthF_hit (outF_iff.mpr ⟨hb.mp (by omega), fun g => by have := hin.mp g; omega⟩) (by omega)] at h
                  exact h
            · refine es_sg 6 (p := ((0 : Int) = 0) ∧ (((0 : Int) = 0) ∧ (0 ≤ p ∧ p < 60))) (pc' := 124) (ls' := [some (aR 20 (0 : Int)), some (aI r), some (aI kk), some (aI q), some (aI (4 * r)), some (aI p), o]) (st' := [aI p, aR 20 (0 : Int), aL (S 25 0 p)]) (S' := S) rfl ⟨rfl, ⟨rfl, (by omega)⟩⟩ ?_
              refine es_callV rfl rfl 20 (0 : Int) [aI p] [aL (S 25 0 p)] rfl rfl rfl rfl (Nat.le_of_ble_eq_true rfl) (Nat.le_of_ble_eq_true rfl) (Nat.le_of_ble_eq_true rfl) ?_
              refine n58 (S := S) (i := p) (by omega) (show 0 ≤ S 26 0 p ∧ S 26 0 p < 4 from by omega) ?_
              show Es G 89 127 [some (aR 20 (0 : Int)), some (aI r), some (aI kk), some (aI q), some (aI (4 * r)), some (aI p), o] [aL (rH S p), aL (S 25 0 p)] S _ _
              refine es_sg 6 (p := (0 : Int) = 0) (pc' := 136) (ls' := [some (aR 20 (0 : Int)), some (aI r), some (aI kk), some (aI q), some (aI (4 * r)), some (aI p), o]) (st' := [aI ((4 * r) + 3), aR 38 (0 : Int), aL ((S 25 0 p) + (rH S p))]) (S' := S) rfl rfl ?_
              refine es_sg 1 (p := ((0 : Int) = 0) ∧ (0 ≤ ((4 * r) + 3) ∧ ((4 * r) + 3) < 40)) (pc' := 137) (ls' := [some (aR 20 (0 : Int)), some (aI r), some (aI kk), some (aI q), some (aI (4 * r)), some (aI p), o]) (st' := [aL (S 38 0 ((4 * r) + 3)), aL ((S 25 0 p) + (rH S p))]) (S' := S) rfl ⟨rfl, (by omega)⟩ ?_
              refine es_lif rfl rfl 145 rfl ⟨by omega, by omega⟩ (rgL hg1 (t := 38) (i := (0 : Int)) (q := ((4 * r) + 3)) (by omega : 0 ≤ (0 : Int) ∧ (0 : Int) < 1) (by omega) rfl) (fun (g137 : (S 38 0 ((4 * r) + 3)) < ((S 25 0 p) + (rH S p))) => ?_) (fun (g137 : ¬ ((S 38 0 ((4 * r) + 3)) < ((S 25 0 p) + (rH S p)))) => ?_)
              · refine es_sg 6 (p := (0 : Int) = 0) (pc' := 155) (ls' := [some (aR 20 (0 : Int)), some (aI r), some (aI kk), some (aI q), some (aI (4 * r)), some (aI p), some (aI (0 : Int))]) (st' := [aI r, aI (60 : Int), aR 39 (0 : Int)]) (S' := S) rfl rfl ?_
                refine es_sg 4 (p := ((0 : Int) = 0) ∧ (0 ≤ ((60 * r) + p) ∧ ((60 * r) + p) < 600)) (pc' := 160) (ls' := [some (aR 20 (0 : Int)), some (aI r), some (aI kk), some (aI q), some (aI (4 * r)), some (aI p), some (aI (0 : Int))]) (st' := [aI (S 39 0 ((60 * r) + p))]) (S' := S) rfl ⟨rfl, (by omega)⟩ ?_
                refine es_if rfl 181 rfl (r32_z (rgZ hg1 (t := 39) (i := (0 : Int)) (q := ((60 * r) + p)) (by omega : 0 ≤ (0 : Int) ∧ (0 : Int) < 1) (by omega) rfl)) (fun (g160 : (S 39 0 ((60 * r) + p)) = (0 : Int)) => ?_) (fun (g160 : ¬ ((S 39 0 ((60 * r) + p)) = (0 : Int))) => ?_)
                · refine es_s0 2 (pc' := 36) (ls' := [some (aR 20 (0 : Int)), some (aI r), some (aI kk), some (aI q), some (aI (4 * r)), some (aI (p + 1)), some (aI (0 : Int))]) (st' := []) (S' := S) rfl ?_
                  obtain ⟨n, rfl⟩ : ∃ m, n = m + 1 := ⟨n - 1, by omega⟩
                  rw [if_neg (by omega), nthF_skip (fun g => by have g1 := hb.mpr (outF_iff.mp g).1; have g2 := (outF_iff.mp g).2; rw [hin] at g2; omega)] at h
                  exact ih n (by omega) (p + 1) q _ (by omega) (by omega) (by omega) (by rw [if_neg (by omega)]; exact h)
                · refine es_s0 1 (pc' := 165) (ls' := [some (aR 20 (0 : Int)), some (aI r), some (aI kk), some (aI q), some (aI (4 * r)), some (aI p), some (aI (0 : Int))]) (st' := [aI (0 : Int)]) (S' := S) rfl ?_
                  refine es_if rfl 171 rfl ⟨by decide, by decide⟩ (fun (g165 : (0 : Int) = (0 : Int)) => ?_) (fun (g165 : ¬ ((0 : Int) = (0 : Int))) => absurd g165 (by decide))
                  refine es_s0 1 (pc' := 172) (ls' := [some (aR 20 (0 : Int)), some (aI r), some (aI kk), some (aI q), some (aI (4 * r)), some (aI p), some (aI (0 : Int))]) (st' := [aI q]) (S' := S) rfl ?_
                  refine es_if rfl 178 rfl ⟨by omega, by omega⟩ (fun (g172 : ¬ q = (0 : Int)) => ?_) (fun (g172 : ¬ (¬ q = (0 : Int))) => ?_)
                  · refine es_s0 3 (pc' := 36) (ls' := [some (aR 20 (0 : Int)), some (aI r), some (aI kk), some (aI (q + (-1))), some (aI (4 * r)), some (aI (p + 1)), some (aI (0 : Int))]) (st' := []) (S' := S) rfl ?_
                    obtain ⟨n, rfl⟩ : ∃ m, n = m + 1 := ⟨n - 1, by omega⟩
                    rw [if_neg (by omega), nthF_next (outF_iff.mpr ⟨hb.mp (by omega), fun g => by have := hin.mp g; omega⟩) (by omega)] at h
                    exact ih n (by omega) (p + 1) _ _ (by omega) (by omega) (by omega) (by rw [if_neg (by omega), show q + (-1) = q - 1 from by omega]; exact h)
                  · refine es_s0 1 (pc' := 177) (ls' := [some (aR 20 (0 : Int)), some (aI r), some (aI kk), some (aI q), some (aI (4 * r)), some (aI p), some (aI (0 : Int))]) (st' := [aI p]) (S' := S) rfl ?_
                    refine es_iret rfl rfl rfl (Or.inl rfl) ?_
                    obtain ⟨n, rfl⟩ : ∃ m, n = m + 1 := ⟨n - 1, by omega⟩
                    rw [if_neg (by omega), nthF_hit (outF_iff.mpr ⟨hb.mp (by omega), fun g => by have := hin.mp g; omega⟩) (by omega)] at h
                    exact h
              · refine es_sg 6 (p := (0 : Int) = 0) (pc' := 154) (ls' := [some (aR 20 (0 : Int)), some (aI r), some (aI kk), some (aI q), some (aI (4 * r)), some (aI p), some (aI (1 : Int))]) (st' := [aI (60 : Int), aR 39 (0 : Int)]) (S' := S) rfl rfl ?_
                refine es_sg 5 (p := ((0 : Int) = 0) ∧ (0 ≤ ((60 * r) + p) ∧ ((60 * r) + p) < 600)) (pc' := 160) (ls' := [some (aR 20 (0 : Int)), some (aI r), some (aI kk), some (aI q), some (aI (4 * r)), some (aI p), some (aI (1 : Int))]) (st' := [aI (S 39 0 ((60 * r) + p))]) (S' := S) rfl ⟨rfl, (by omega)⟩ ?_
                refine es_if rfl 181 rfl (r32_z (rgZ hg1 (t := 39) (i := (0 : Int)) (q := ((60 * r) + p)) (by omega : 0 ≤ (0 : Int) ∧ (0 : Int) < 1) (by omega) rfl)) (fun (g160 : (S 39 0 ((60 * r) + p)) = (0 : Int)) => ?_) (fun (g160 : ¬ ((S 39 0 ((60 * r) + p)) = (0 : Int))) => ?_)
                · refine es_s0 2 (pc' := 36) (ls' := [some (aR 20 (0 : Int)), some (aI r), some (aI kk), some (aI q), some (aI (4 * r)), some (aI (p + 1)), some (aI (1 : Int))]) (st' := []) (S' := S) rfl ?_
                  obtain ⟨n, rfl⟩ : ∃ m, n = m + 1 := ⟨n - 1, by omega⟩
                  rw [if_neg (by omega), nthF_skip (fun g => by have g1 := hb.mpr (outF_iff.mp g).1; have g2 := (outF_iff.mp g).2; rw [hin] at g2; omega)] at h
                  exact ih n (by omega) (p + 1) q _ (by omega) (by omega) (by omega) (by rw [if_neg (by omega)]; exact h)
                · refine es_s0 1 (pc' := 165) (ls' := [some (aR 20 (0 : Int)), some (aI r), some (aI kk), some (aI q), some (aI (4 * r)), some (aI p), some (aI (1 : Int))]) (st' := [aI (1 : Int)]) (S' := S) rfl ?_
                  refine es_if rfl 171 rfl ⟨by decide, by decide⟩ (fun (g165 : (1 : Int) = (0 : Int)) => absurd g165 (by decide)) (fun (g165 : ¬ ((1 : Int) = (0 : Int))) => ?_)
                  refine es_s0 3 (pc' := 36) (ls' := [some (aR 20 (0 : Int)), some (aI r), some (aI kk), some (aI q), some (aI (4 * r)), some (aI (p + 1)), some (aI (1 : Int))]) (st' := []) (S' := S) rfl ?_
                  obtain ⟨n, rfl⟩ : ∃ m, n = m + 1 := ⟨n - 1, by omega⟩
                  rw [if_neg (by omega), nthF_skip (fun g => by have g1 := hb.mpr (outF_iff.mp g).1; have g2 := (outF_iff.mp g).2; rw [hin] at g2; omega)] at h
                  exact ih n (by omega) (p + 1) q _ (by omega) (by omega) (by omega) (by rw [if_neg (by omega)]; exact h)
theorem n89 {G : Gw} {S : Sg} {k : Nat} {Q : AQ} {A : Sg} (hA : CI A) (hR : RR A S) {r kk : Int} (hr : r32 r) (hk : r32 kk) (t1 : ¬ (0 ≤ r ∧ r < A 0 0 7) → Q (.inl (some (aI 0))) (su S 20 0 0 1)) (h : (0 ≤ r ∧ r < A 0 0 7) → Q (.inl (some (aI (nthF (outF A r) (A 0 0 5).toNat 0 kk)))) (su S 20 0 0 0)) : Es G 89 0 (aEnt 7 [aR 20 (0 : Int), aI r, aI kk]) [] S (k + 1) Q := by
  have n1 := hA.1.1
  have n2 := hA.1.2.1
  have n3 := hA.1.2.2
  have e1 : S 20 0 1 = A 0 0 5 := hR.1.1
  have e10 : S 20 0 10 = A 0 0 6 := hR.1.2.1
  have e17 : S 20 0 17 = A 0 0 7 := hR.1.2.2
  refine es_rg (fun hg1 => ?_)
  refine es_s0 3 (pc' := 3) (ls' := [some (aR 20 (0 : Int)), some (aI r), some (aI kk), none, none, none, none]) (st' := [aI r, aR 20 (0 : Int), aR 20 (0 : Int)]) (S' := S) rfl ?_
  refine es_callV rfl rfl 20 (0 : Int) [aI r] [aR 20 (0 : Int)] rfl rfl rfl rfl (Nat.le_of_ble_eq_true rfl) (Nat.le_of_ble_eq_true rfl) (Nat.le_of_ble_eq_true rfl) ?_
  refine n84 (S := S) (n := r) (by assumption) (fun hc3 => ?_) (fun hc3 => ?_)
  · show Es G 89 6 [some (aR 20 (0 : Int)), some (aI r), some (aI kk), none, none, none, none] [aI (1 : Int), aR 20 (0 : Int)] S _ _
    refine es_if rfl 13 rfl ⟨by decide, by decide⟩ (fun (g6 : (1 : Int) = (0 : Int)) => absurd g6 (by decide)) (fun (g6 : ¬ ((1 : Int) = (0 : Int))) => ?_)
    refine es_sg 3 (p := ((0 : Int) = 0) ∧ (r32 (0 : Int))) (pc' := 17) (ls' := [some (aR 20 (0 : Int)), some (aI r), some (aI kk), none, none, none, none]) (st' := []) (S' := su S 20 0 0 0) rfl ⟨rfl, ⟨by decide, by decide⟩⟩ ?_
    refine es_rg (fun hg2 => ?_)
    refine es_sg 2 (p := (0 : Int) = 0) (pc' := 21) (ls' := [some (aR 20 (0 : Int)), some (aI r), some (aI kk), none, none, none, none]) (st' := [aI (0 : Int)]) (S' := su S 20 0 0 0) rfl rfl ?_
    refine es_if rfl 26 rfl ⟨by omega, by omega⟩ (fun (g21 : (0 : Int) = (0 : Int)) => ?_) (fun (g21 : ¬ ((0 : Int) = (0 : Int))) => absurd g21 (by decide))
    refine es_s0 6 (pc' := 33) (ls' := [some (aR 20 (0 : Int)), some (aI r), some (aI kk), some (aI kk), some (aI (4 * r)), none, none]) (st' := []) (S' := su S 20 0 0 0) rfl ?_
    refine es_s0 2 (pc' := 36) (ls' := [some (aR 20 (0 : Int)), some (aI r), some (aI kk), some (aI kk), some (aI (4 * r)), some (aI (0 : Int)), none]) (st' := []) (S' := su S 20 0 0 0) rfl ?_
    refine n89_l hA hR.thr (by omega) hk (A 0 0 5).toNat 0 kk _ (by omega) (by omega) (by omega) ?_
    have h' := h (by omega)
    split
    · rw [nthF_neg _ _ (by omega)] at h'; exact h'
    · exact h'
  · show Es G 89 6 [some (aR 20 (0 : Int)), some (aI r), some (aI kk), none, none, none, none] [aI (0 : Int), aR 20 (0 : Int)] S _ _
    refine es_if rfl 13 rfl ⟨by decide, by decide⟩ (fun (g6 : (0 : Int) = (0 : Int)) => ?_) (fun (g6 : ¬ ((0 : Int) = (0 : Int))) => absurd g6 (by decide))
    refine es_sg 2 (p := ((0 : Int) = 0) ∧ (r32 (1 : Int))) (pc' := 17) (ls' := [some (aR 20 (0 : Int)), some (aI r), some (aI kk), none, none, none, none]) (st' := []) (S' := su S 20 0 0 1) rfl ⟨rfl, ⟨by decide, by decide⟩⟩ ?_
    refine es_rg (fun hg3 => ?_)
    refine es_sg 2 (p := (0 : Int) = 0) (pc' := 21) (ls' := [some (aR 20 (0 : Int)), some (aI r), some (aI kk), none, none, none, none]) (st' := [aI (1 : Int)]) (S' := su S 20 0 0 1) rfl rfl ?_
    refine es_if rfl 26 rfl ⟨by omega, by omega⟩ (fun (g21 : (1 : Int) = (0 : Int)) => absurd g21 (by decide)) (fun (g21 : ¬ ((1 : Int) = (0 : Int))) => ?_)
    refine es_s0 1 (pc' := 25) (ls' := [some (aR 20 (0 : Int)), some (aI r), some (aI kk), none, none, none, none]) (st' := [aI (0 : Int)]) (S' := su S 20 0 0 1) rfl ?_
    refine es_iret rfl rfl rfl (Or.inl rfl) ?_
    exact t1 (by omega)
