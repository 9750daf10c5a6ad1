/-! THE CLASS: what changes little -/
abbrev nP (S : Sg) : Int := S 0 0 5
abbrev nC (S : Sg) : Int := S 0 0 6
abbrev nR (S : Sg) : Int := S 0 0 7
/-- a part more -/
def fPart (S : Sg) (w h : Int) : Sg := su (su (su S 1 (S 0 0 5) 0 w) 1 (S 0 0 5) 1 h) 0 0 5 (S 0 0 5 + 1)
/-- a part comes into a channel -/
def fJoin (S : Sg) (c p r : Int) : Sg := su (su (su (su S 3 c r p) 2 c 5 (S 2 c 5 + 1)) 1 p 5 c) 1 p 6 r
theorem m9 {G : Gw} {S : Sg} {k : Nat} {Q : AQ} (hnp : 0 ≤ S 0 0 5 ∧ S 0 0 5 ≤ 60) {w h : Int} (hw : r64 w) (hh : r64 h) (h1 : 60 ≤ S 0 0 5 → Q (.inl (some (aI (-1)))) S) (h0 : S 0 0 5 < 60 → Q (.inl (some (aI (S 0 0 5)))) (fPart S w h)) : Es G 9 0 (aEnt 5 [aR 0 (0 : Int), aL w, aL h]) [] S (k + 0) Q := by
  refine es_rg (fun hg1 => ?_)
  refine es_sg 3 (p := (0 : Int) = 0) (pc' := 6) (ls' := [some (aR 0 (0 : Int)), some (aL w), none, some (aL h), none]) (st' := [aI (60 : Int), aI (S 0 0 5)]) (S' := S) rfl rfl ?_
  refine es_icmp rfl 11 rfl (rgI hg1 (t := 0) (i := (0 : Int)) (q := (5 : Int)) (by omega : 0 ≤ (0 : Int) ∧ (0 : Int) < 1) (by omega) rfl) ⟨by decide, by decide⟩ (fun (g6 : (S 0 0 5) < (60 : Int)) => ?_) (fun (g6 : ¬ ((S 0 0 5) < (60 : Int))) => ?_)
  · refine es_sg 6 (p := ((0 : Int) = 0) ∧ (((0 : Int) = 0) ∧ (((0 : Int) = 0) ∧ (0 ≤ (S 0 0 5) ∧ (S 0 0 5) < 60)))) (pc' := 21) (ls' := [some (aR 0 (0 : Int)), some (aL w), none, some (aL h), none]) (st' := [aL w, aR 1 (S 0 0 5)]) (S' := S) rfl ⟨rfl, rfl, ⟨rfl, (by omega)⟩⟩ ?_
    refine es_sg 1 (p := (0 ≤ (S 0 0 5) ∧ (S 0 0 5) < 60) ∧ (r64 w)) (pc' := 24) (ls' := [some (aR 0 (0 : Int)), some (aL w), none, some (aL h), none]) (st' := []) (S' := su S 1 (S 0 0 5) 0 w) rfl ⟨(by omega), (by assumption)⟩ ?_
    refine es_rg (fun hg2 => ?_)
    refine es_sg 6 (p := ((0 : Int) = 0) ∧ (((0 : Int) = 0) ∧ (((0 : Int) = 0) ∧ (0 ≤ (S 0 0 5) ∧ (S 0 0 5) < 60)))) (pc' := 34) (ls' := [some (aR 0 (0 : Int)), some (aL w), none, some (aL h), none]) (st' := [aL h, aR 1 (S 0 0 5)]) (S' := su S 1 (S 0 0 5) 0 w) rfl ⟨rfl, rfl, ⟨rfl, (by omega)⟩⟩ ?_
    refine es_sg 1 (p := (0 ≤ (S 0 0 5) ∧ (S 0 0 5) < 60) ∧ (r64 h)) (pc' := 37) (ls' := [some (aR 0 (0 : Int)), some (aL w), none, some (aL h), none]) (st' := []) (S' := su (su S 1 (S 0 0 5) 0 w) 1 (S 0 0 5) 1 h) rfl ⟨(by omega), (by assumption)⟩ ?_
    refine es_rg (fun hg3 => ?_)
    refine es_sg 6 (p := ((0 : Int) = 0) ∧ (((0 : Int) = 0) ∧ (r32 ((S 0 0 5) + 1)))) (pc' := 47) (ls' := [some (aR 0 (0 : Int)), some (aL w), none, some (aL h), none]) (st' := []) (S' := su (su (su S 1 (S 0 0 5) 0 w) 1 (S 0 0 5) 1 h) 0 0 5 ((S 0 0 5) + 1)) rfl ⟨rfl, ⟨rfl, ⟨by omega, by omega⟩⟩⟩ ?_
    refine es_rg (fun hg4 => ?_)
    refine es_sg 4 (p := (0 : Int) = 0) (pc' := 53) (ls' := [some (aR 0 (0 : Int)), some (aL w), none, some (aL h), none]) (st' := [aI (((S 0 0 5) + 1) - 1)]) (S' := su (su (su S 1 (S 0 0 5) 0 w) 1 (S 0 0 5) 1 h) 0 0 5 ((S 0 0 5) + 1)) rfl rfl ?_
    refine es_iret rfl rfl rfl (Or.inl rfl) ?_
    first | exact h1 (by omega) | exact h0 (by omega) | (rw [show (S 0 0 5 + 1 - 1 : Int) = S 0 0 5 from by omega]; exact h0 (by omega))
  · refine es_s0 1 (pc' := 10) (ls' := [some (aR 0 (0 : Int)), some (aL w), none, some (aL h), none]) (st' := [aI (-1 : Int)]) (S' := S) rfl ?_
    refine es_iret rfl rfl rfl (Or.inl rfl) ?_
    first | exact h1 (by omega) | exact h0 (by omega) | (rw [show (S 0 0 5 + 1 - 1 : Int) = S 0 0 5 from by omega]; exact h0 (by omega))
theorem m10 {G : Gw} {S : Sg} {k : Nat} {Q : AQ} (hnp : 0 ≤ S 0 0 5 ∧ S 0 0 5 ≤ 60) {w h : Int} (hw : r64 w) (hh : r64 h) (h0 : ¬ ((1 ≤ w ∧ w ≤ 1000) ∧ (1 ≤ h ∧ h ≤ 1000)) → Q (.inr 0) S) (h1 : ((1 ≤ w ∧ w ≤ 1000) ∧ (1 ≤ h ∧ h ≤ 1000)) ∧ 60 ≤ S 0 0 5 → Q (.inl (some (aI (-1)))) S) (h2 : ((1 ≤ w ∧ w ≤ 1000) ∧ (1 ≤ h ∧ h ≤ 1000)) ∧ S 0 0 5 < 60 → Q (.inl (some (aI (S 0 0 5)))) (fPart S w h)) : Es G 10 0 (aEnt 5 [aR 0 (0 : Int), aL w, aL h]) [] S (k + 1) Q := by
  refine es_rg (fun hg1 => ?_)
  refine es_s0 2 (pc' := 2) (ls' := [some (aR 0 (0 : Int)), some (aL w), none, some (aL h), none]) (st' := [aL h, aL w]) (S' := S) rfl ?_
  refine es_callS rfl rfl [aL w, aL h] [] rfl rfl (Nat.le_of_ble_eq_true rfl) (Nat.le_of_ble_eq_true rfl) (Nat.le_of_ble_eq_true rfl) ?_
  refine m8 (by assumption) (by assumption) (fun hc2 => ?_) (fun hc2 => ⟨⟨_, rfl, rfl, rfl⟩, ?_⟩)
  · show Es G 10 5 [some (aR 0 (0 : Int)), some (aL w), none, some (aL h), none] [] S _ _
    refine es_s0 3 (pc' := 8) (ls' := [some (aR 0 (0 : Int)), some (aL w), none, some (aL h), none]) (st' := [aL h, aL w, aR 0 (0 : Int)]) (S' := S) rfl ?_
    refine es_callV rfl rfl 0 (0 : Int) [aL w, aL h] [] rfl rfl rfl rfl (Nat.le_of_ble_eq_true rfl) (Nat.le_of_ble_eq_true rfl) (Nat.le_of_ble_eq_true rfl) ?_
    refine m9 hnp (by assumption) (by assumption) (fun hc8 => ?_) (fun hc8 => ?_)
    · show Es G 10 11 [some (aR 0 (0 : Int)), some (aL w), none, some (aL h), none] [aI (-1 : Int)] S _ _
      refine es_iret rfl rfl rfl (Or.inl rfl) ?_
      first | exact h0 (by omega) | exact h1 (by omega) | exact h2 (by omega) | (exfalso; omega)
    · show Es G 10 11 [some (aR 0 (0 : Int)), some (aL w), none, some (aL h), none] [aI (S 0 0 5)] (su (su (su S 1 (S 0 0 5) 0 w) 1 (S 0 0 5) 1 h) 0 0 5 ((S 0 0 5) + 1)) _ _
      refine es_rg (fun hg2 => ?_)
      refine es_iret rfl rfl rfl (Or.inl rfl) ?_
      first | exact h0 (by omega) | exact h1 (by omega) | exact h2 (by omega) | (exfalso; omega)
  · first | exact h0 (by omega) | exact h1 (by omega) | exact h2 (by omega) | (exfalso; omega)
theorem m23 {G : Gw} {S : Sg} {k : Nat} {Q : AQ} (hnp : 0 ≤ S 0 0 5 ∧ S 0 0 5 ≤ 60) {p x y t : Int} (hp : r32 p) (hx : r64 x) (hy : r64 y) (ht : r32 t) (t1 : ¬ (0 ≤ p ∧ p < S 0 0 5) → Q (.inr 1) S) (t2 : (0 ≤ p ∧ p < S 0 0 5) ∧ ¬ (((-1000000 ≤ x ∧ x ≤ 1000000) ∧ (-1000000 ≤ y ∧ y ≤ 1000000)) ∧ (0 ≤ t ∧ t < 4)) → Q (.inr 0) S) (h1 : ((0 ≤ p ∧ p < S 0 0 5) ∧ ((-1000000 ≤ x ∧ x ≤ 1000000) ∧ (-1000000 ≤ y ∧ y ≤ 1000000)) ∧ (0 ≤ t ∧ t < 4)) ∧ ¬ (S 1 p 2 = x ∧ S 1 p 3 = y ∧ S 1 p 4 = t) → Q (.inl (some (aI 1))) (fMv S p x y t)) (h0 : ((0 ≤ p ∧ p < S 0 0 5) ∧ ((-1000000 ≤ x ∧ x ≤ 1000000) ∧ (-1000000 ≤ y ∧ y ≤ 1000000)) ∧ (0 ≤ t ∧ t < 4)) ∧ (S 1 p 2 = x ∧ S 1 p 3 = y ∧ S 1 p 4 = t) → Q (.inl (some (aI 0))) (fMv S p x y t)) : Es G 23 0 (aEnt 7 [aR 0 (0 : Int), aI p, aL x, aL y, aI t]) [] S (k + 2) Q := by
  refine es_rg (fun hg1 => ?_)
  refine es_s0 2 (pc' := 2) (ls' := [some (aR 0 (0 : Int)), some (aI p), some (aL x), none, some (aL y), none, some (aI t)]) (st' := [aI p, aR 0 (0 : Int)]) (S' := S) rfl ?_
  refine es_callV rfl rfl 0 (0 : Int) [aI p] [] rfl rfl rfl rfl (Nat.le_of_ble_eq_true rfl) (Nat.le_of_ble_eq_true rfl) (Nat.le_of_ble_eq_true rfl) ?_
  refine m17 (n := p) (by assumption) (fun hc2 => ?_) (fun hc2 => ⟨⟨_, rfl, rfl, rfl⟩, ?_⟩)
  · show Es G 23 5 [some (aR 0 (0 : Int)), some (aI p), some (aL x), none, some (aL y), none, some (aI t)] [] S _ _
    refine es_s0 2 (pc' := 8) (ls' := [some (aR 0 (0 : Int)), some (aI p), some (aL x), none, some (aL y), none, some (aI t)]) (st' := [aL y, aL x]) (S' := S) rfl ?_
    refine es_callS rfl rfl [aL x, aL y] [] rfl rfl (Nat.le_of_ble_eq_true rfl) (Nat.le_of_ble_eq_true rfl) (Nat.le_of_ble_eq_true rfl) ?_
    refine m19 (by assumption) (by assumption) (fun hc8 => ?_) (fun hc8 => ⟨⟨_, rfl, rfl, rfl⟩, ?_⟩)
    · show Es G 23 11 [some (aR 0 (0 : Int)), some (aI p), some (aL x), none, some (aL y), none, some (aI t)] [] S _ _
      refine es_s0 1 (pc' := 13) (ls' := [some (aR 0 (0 : Int)), some (aI p), some (aL x), none, some (aL y), none, some (aI t)]) (st' := [aI t]) (S' := S) rfl ?_
      refine es_callS rfl rfl [aI t] [] rfl rfl (Nat.le_of_ble_eq_true rfl) (Nat.le_of_ble_eq_true rfl) (Nat.le_of_ble_eq_true rfl) ?_
      refine m20 (by assumption) (fun hc13 => ?_) (fun hc13 => ⟨⟨_, rfl, rfl, rfl⟩, ?_⟩)
      · show Es G 23 16 [some (aR 0 (0 : Int)), some (aI p), some (aL x), none, some (aL y), none, some (aI t)] [] S _ _
        refine es_sg 6 (p := ((0 : Int) = 0) ∧ (((0 : Int) = 0) ∧ (0 ≤ p ∧ p < 60))) (pc' := 25) (ls' := [some (aR 0 (0 : Int)), some (aI p), some (aL x), none, some (aL y), none, some (aI t)]) (st' := [aL y, aL x, aR 1 p]) (S' := S) rfl ⟨rfl, ⟨rfl, (by omega)⟩⟩ ?_
        refine es_s0 1 (pc' := 27) (ls' := [some (aR 0 (0 : Int)), some (aI p), some (aL x), none, some (aL y), none, some (aI t)]) (st' := [aI t, aL y, aL x, aR 1 p]) (S' := S) rfl ?_
        refine es_callV rfl rfl 1 p [aL x, aL y, aI t] [] rfl rfl rfl (show 0 ≤ p ∧ p < 60 from (by omega)) (Nat.le_of_ble_eq_true rfl) (Nat.le_of_ble_eq_true rfl) (Nat.le_of_ble_eq_true rfl) ?_
        refine m22 (i := p) (x := x) (y := y) (t := t) (by omega) (by assumption) (by assumption) (by assumption) (fun hc27 => ?_) (fun hc27 => ?_)
        · show Es G 23 30 [some (aR 0 (0 : Int)), some (aI p), some (aL x), none, some (aL y), none, some (aI t)] [aI (1 : Int)] (su (su (su S 1 p 2 x) 1 p 3 y) 1 p 4 t) _ _
          refine es_rg (fun hg2 => ?_)
          refine es_iret rfl rfl rfl (Or.inr ⟨rfl, (by decide)⟩) ?_
          first | exact t1 (by omega) | exact t2 (by omega) | exact h1 (by omega) | exact h0 (by omega) | (exfalso; omega)
        · show Es G 23 30 [some (aR 0 (0 : Int)), some (aI p), some (aL x), none, some (aL y), none, some (aI t)] [aI (0 : Int)] (su (su (su S 1 p 2 x) 1 p 3 y) 1 p 4 t) _ _
          refine es_rg (fun hg3 => ?_)
          refine es_iret rfl rfl rfl (Or.inr ⟨rfl, (by decide)⟩) ?_
          first | exact t1 (by omega) | exact t2 (by omega) | exact h1 (by omega) | exact h0 (by omega) | (exfalso; omega)
      · first | exact t1 (by omega) | exact t2 (by omega) | exact h1 (by omega) | exact h0 (by omega) | (exfalso; omega)
    · first | exact t1 (by omega) | exact t2 (by omega) | exact h1 (by omega) | exact h0 (by omega) | (exfalso; omega)
  · first | exact t1 (by omega) | exact t2 (by omega) | exact h1 (by omega) | exact h0 (by omega) | (exfalso; omega)
theorem m29 {G : Gw} {S : Sg} {k : Nat} {Q : AQ} (hnc : 0 ≤ S 0 0 6 ∧ S 0 0 6 ≤ 20) (h1 : 20 ≤ S 0 0 6 → Q (.inl (some (aI (-1)))) S) (h0 : S 0 0 6 < 20 → Q (.inl (some (aI (S 0 0 6)))) (su S 0 0 6 (S 0 0 6 + 1))) : Es G 29 0 (aEnt 1 [aR 0 (0 : Int)]) [] S (k + 0) Q := by
  refine es_rg (fun hg1 => ?_)
  refine es_sg 3 (p := (0 : Int) = 0) (pc' := 6) (ls' := [some (aR 0 (0 : Int))]) (st' := [aI (20 : Int), aI (S 0 0 6)]) (S' := S) rfl rfl ?_
  refine es_icmp rfl 11 rfl (rgI hg1 (t := 0) (i := (0 : Int)) (q := (6 : Int)) (by omega : 0 ≤ (0 : Int) ∧ (0 : Int) < 1) (by omega) rfl) ⟨by decide, by decide⟩ (fun (g6 : (S 0 0 6) < (20 : Int)) => ?_) (fun (g6 : ¬ ((S 0 0 6) < (20 : Int))) => ?_)
  · refine es_sg 6 (p := ((0 : Int) = 0) ∧ (((0 : Int) = 0) ∧ (r32 ((S 0 0 6) + 1)))) (pc' := 21) (ls' := [some (aR 0 (0 : Int))]) (st' := []) (S' := su S 0 0 6 ((S 0 0 6) + 1)) rfl ⟨rfl, ⟨rfl, ⟨by omega, by omega⟩⟩⟩ ?_
    refine es_rg (fun hg2 => ?_)
    refine es_sg 4 (p := (0 : Int) = 0) (pc' := 27) (ls' := [some (aR 0 (0 : Int))]) (st' := [aI (((S 0 0 6) + 1) - 1)]) (S' := su S 0 0 6 ((S 0 0 6) + 1)) rfl rfl ?_
    refine es_iret rfl rfl rfl (Or.inl rfl) ?_
    first | exact h1 (by omega) | exact h0 (by omega) | (rw [show (S 0 0 6 + 1 - 1 : Int) = S 0 0 6 from by omega]; exact h0 (by omega))
  · refine es_s0 1 (pc' := 10) (ls' := [some (aR 0 (0 : Int))]) (st' := [aI (-1 : Int)]) (S' := S) rfl ?_
    refine es_iret rfl rfl rfl (Or.inl rfl) ?_
    first | exact h1 (by omega) | exact h0 (by omega) | (rw [show (S 0 0 6 + 1 - 1 : Int) = S 0 0 6 from by omega]; exact h0 (by omega))
theorem m30 {G : Gw} {S : Sg} {k : Nat} {Q : AQ} (hnc : 0 ≤ S 0 0 6 ∧ S 0 0 6 ≤ 20) (h1 : 20 ≤ S 0 0 6 → Q (.inl (some (aI (-1)))) S) (h0 : S 0 0 6 < 20 → Q (.inl (some (aI (S 0 0 6)))) (su S 0 0 6 (S 0 0 6 + 1))) : Es G 30 0 (aEnt 1 [aR 0 (0 : Int)]) [] S (k + 1) Q := by
  refine es_rg (fun hg1 => ?_)
  refine es_s0 1 (pc' := 1) (ls' := [some (aR 0 (0 : Int))]) (st' := [aR 0 (0 : Int)]) (S' := S) rfl ?_
  refine es_callV rfl rfl 0 (0 : Int) [] [] rfl rfl rfl rfl (Nat.le_of_ble_eq_true rfl) (Nat.le_of_ble_eq_true rfl) (Nat.le_of_ble_eq_true rfl) ?_
  refine m29 hnc (fun hc1 => ?_) (fun hc1 => ?_)
  · show Es G 30 4 [some (aR 0 (0 : Int))] [aI (-1 : Int)] S _ _
    refine es_iret rfl rfl rfl (Or.inl rfl) ?_
    first | exact h1 (by omega) | exact h0 (by omega) | (exfalso; omega)
  · show Es G 30 4 [some (aR 0 (0 : Int))] [aI (S 0 0 6)] (su S 0 0 6 (S 0 0 6 + 1)) _ _
    refine es_rg (fun hg2 => ?_)
    refine es_iret rfl rfl rfl (Or.inl rfl) ?_
    first | exact h1 (by omega) | exact h0 (by omega) | (exfalso; omega)
theorem m36 {G : Gw} {S : Sg} {k : Nat} {Q : AQ} {c p r : Int} (hc : 0 ≤ c ∧ c < 20) (hp : 0 ≤ p ∧ p < 60) (hr : 0 ≤ r ∧ r < 20) (hs : 0 ≤ S 2 c 5 ∧ S 2 c 5 ≤ 100) (h : Q (.inl none) (fJoin S c p r)) : Es G 36 0 (aEnt 4 [aR 0 (0 : Int), aI c, aI p, aI r]) [] S (k + 0) Q := by
  refine es_rg (fun hg1 => ?_)
  refine es_sg 6 (p := ((0 : Int) = 0) ∧ ((((0 : Int) = 0) ∧ (0 ≤ c ∧ c < 20)) ∧ (0 ≤ c ∧ c < 20))) (pc' := 10) (ls' := [some (aR 0 (0 : Int)), some (aI c), some (aI p), some (aI r)]) (st' := [aI r, aR 3 c]) (S' := S) rfl ⟨rfl, ⟨rfl, (by omega)⟩, (by omega)⟩ ?_
  refine es_sg 2 (p := ((0 ≤ c ∧ c < 20) ∧ (0 ≤ r ∧ r < 20)) ∧ (r32 p)) (pc' := 12) (ls' := [some (aR 0 (0 : Int)), some (aI c), some (aI p), some (aI r)]) (st' := []) (S' := su S 3 c r p) rfl ⟨⟨(by omega), (by omega)⟩, ⟨by omega, by omega⟩⟩ ?_
  refine es_rg (fun hg2 => ?_)
  refine es_sg 6 (p := ((0 : Int) = 0) ∧ ((((0 : Int) = 0) ∧ (0 ≤ c ∧ c < 20)) ∧ (0 ≤ c ∧ c < 20))) (pc' := 22) (ls' := [some (aR 0 (0 : Int)), some (aI c), some (aI p), some (aI r)]) (st' := [aI (S 2 c 5), aR 2 c]) (S' := su S 3 c r p) rfl ⟨rfl, ⟨rfl, (by omega)⟩, (by omega)⟩ ?_
  refine es_sg 3 (p := (0 ≤ c ∧ c < 20) ∧ (r32 ((S 2 c 5) + 1))) (pc' := 27) (ls' := [some (aR 0 (0 : Int)), some (aI c), some (aI p), some (aI r)]) (st' := []) (S' := su (su S 3 c r p) 2 c 5 ((S 2 c 5) + 1)) rfl ⟨(by omega), ⟨by omega, by omega⟩⟩ ?_
  refine es_rg (fun hg3 => ?_)
  refine es_sg 6 (p := ((0 : Int) = 0) ∧ ((((0 : Int) = 0) ∧ (0 ≤ p ∧ p < 60)) ∧ ((0 ≤ p ∧ p < 60) ∧ (r32 c)))) (pc' := 37) (ls' := [some (aR 0 (0 : Int)), some (aI c), some (aI p), some (aI r)]) (st' := []) (S' := su (su (su S 3 c r p) 2 c 5 ((S 2 c 5) + 1)) 1 p 5 c) rfl ⟨rfl, ⟨rfl, (by omega)⟩, ⟨(by omega), ⟨by omega, by omega⟩⟩⟩ ?_
  refine es_rg (fun hg4 => ?_)
  refine es_sg 6 (p := ((0 : Int) = 0) ∧ ((((0 : Int) = 0) ∧ (0 ≤ p ∧ p < 60)) ∧ ((0 ≤ p ∧ p < 60) ∧ (r32 r)))) (pc' := 47) (ls' := [some (aR 0 (0 : Int)), some (aI c), some (aI p), some (aI r)]) (st' := []) (S' := su (su (su (su S 3 c r p) 2 c 5 ((S 2 c 5) + 1)) 1 p 5 c) 1 p 6 r) rfl ⟨rfl, ⟨rfl, (by omega)⟩, ⟨(by omega), ⟨by omega, by omega⟩⟩⟩ ?_
  refine es_rg (fun hg5 => ?_)
  refine es_vret rfl ?_
  exact h
theorem m37 {G : Gw} {S : Sg} {k : Nat} {Q : AQ} (hnp : 0 ≤ S 0 0 5 ∧ S 0 0 5 ≤ 60) (hnc : 0 ≤ S 0 0 6 ∧ S 0 0 6 ≤ 20) {c p r : Int} (hc : r32 c) (hp : r32 p) (hr : r32 r) (hs : ∀ c, 0 ≤ c → c < 20 → 0 ≤ S 2 c 5 ∧ S 2 c 5 ≤ 100) (t1 : ¬ ((0 ≤ c ∧ c < S 0 0 6) ∧ (0 ≤ p ∧ p < S 0 0 5)) → Q (.inr 1) S) (t2 : ((0 ≤ c ∧ c < S 0 0 6) ∧ (0 ≤ p ∧ p < S 0 0 5)) ∧ ¬ (0 ≤ r ∧ r < 20) → Q (.inr 0) S) (h0 : ((0 ≤ c ∧ c < S 0 0 6) ∧ (0 ≤ p ∧ p < S 0 0 5) ∧ (0 ≤ r ∧ r < 20)) ∧ ¬ (S 2 c 0 = -1 ∧ S 1 p 5 = -1 ∧ S 3 c r = -1) → Q (.inl (some (aI 0))) S) (h1 : ((0 ≤ c ∧ c < S 0 0 6) ∧ (0 ≤ p ∧ p < S 0 0 5) ∧ (0 ≤ r ∧ r < 20)) ∧ (S 2 c 0 = -1 ∧ S 1 p 5 = -1 ∧ S 3 c r = -1) → Q (.inl (some (aI 1))) (fJoin S c p r)) : Es G 37 0 (aEnt 4 [aR 0 (0 : Int), aI c, aI p, aI r]) [] S (k + 2) Q := by
  refine es_rg (fun hg1 => ?_)
  refine es_s0 2 (pc' := 2) (ls' := [some (aR 0 (0 : Int)), some (aI c), some (aI p), some (aI r)]) (st' := [aI c, aR 0 (0 : Int)]) (S' := S) rfl ?_
  refine es_callV rfl rfl 0 (0 : Int) [aI c] [] rfl rfl rfl rfl (Nat.le_of_ble_eq_true rfl) (Nat.le_of_ble_eq_true rfl) (Nat.le_of_ble_eq_true rfl) ?_
  refine m34 (n := c) (by assumption) (fun hc2 => ?_) (fun hc2 => ⟨⟨_, rfl, rfl, rfl⟩, ?_⟩)
  · show Es G 37 5 [some (aR 0 (0 : Int)), some (aI c), some (aI p), some (aI r)] [] S _ _
    refine es_s0 2 (pc' := 7) (ls' := [some (aR 0 (0 : Int)), some (aI c), some (aI p), some (aI r)]) (st' := [aI p, aR 0 (0 : Int)]) (S' := S) rfl ?_
    refine es_callV rfl rfl 0 (0 : Int) [aI p] [] rfl rfl rfl rfl (Nat.le_of_ble_eq_true rfl) (Nat.le_of_ble_eq_true rfl) (Nat.le_of_ble_eq_true rfl) ?_
    refine m17 (n := p) (by assumption) (fun hc7 => ?_) (fun hc7 => ⟨⟨_, rfl, rfl, rfl⟩, ?_⟩)
    · show Es G 37 10 [some (aR 0 (0 : Int)), some (aI c), some (aI p), some (aI r)] [] S _ _
      refine es_s0 1 (pc' := 11) (ls' := [some (aR 0 (0 : Int)), some (aI c), some (aI p), some (aI r)]) (st' := [aI r]) (S' := S) rfl ?_
      refine es_if rfl 20 rfl (by assumption) (fun (g11 : r < (0 : Int)) => ?_) (fun (g11 : ¬ (r < (0 : Int))) => ?_)
      · refine es_throw rfl ?_
        first | exact t1 (by omega) | exact t2 (by omega) | exact h0 (by omega) | exact h1 (by omega) | (exfalso; omega)
      · refine es_s0 2 (pc' := 17) (ls' := [some (aR 0 (0 : Int)), some (aI c), some (aI p), some (aI r)]) (st' := [aI (20 : Int), aI r]) (S' := S) rfl ?_
        refine es_icmp rfl 30 rfl (by assumption) ⟨by decide, by decide⟩ (fun (g17 : r < (20 : Int)) => ?_) (fun (g17 : ¬ (r < (20 : Int))) => ?_)
        · refine es_sg 4 (p := ((0 : Int) = 0) ∧ (((0 : Int) = 0) ∧ (0 ≤ c ∧ c < 20))) (pc' := 36) (ls' := [some (aR 0 (0 : Int)), some (aI c), some (aI p), some (aI r)]) (st' := [aR 2 c]) (S' := S) rfl ⟨rfl, ⟨rfl, (by omega)⟩⟩ ?_
          refine es_callV rfl rfl 2 c [] [] rfl rfl rfl (show 0 ≤ c ∧ c < 20 from (by omega)) (Nat.le_of_ble_eq_true rfl) (Nat.le_of_ble_eq_true rfl) (Nat.le_of_ble_eq_true rfl) ?_
          refine m35 (c := c) (by omega) (fun hc36 => ?_) (fun hc36 => ?_)
          · show Es G 37 39 [some (aR 0 (0 : Int)), some (aI c), some (aI p), some (aI r)] [aI (1 : Int)] S _ _
            refine es_if rfl 70 rfl ⟨by decide, by decide⟩ (fun (g39 : ¬ (1 : Int) = (0 : Int)) => ?_) (fun (g39 : ¬ (¬ (1 : Int) = (0 : Int))) => absurd g39 (by decide))
            refine es_s0 1 (pc' := 71) (ls' := [some (aR 0 (0 : Int)), some (aI c), some (aI p), some (aI r)]) (st' := [aI (0 : Int)]) (S' := S) rfl ?_
            refine es_iret rfl rfl rfl (Or.inr ⟨rfl, (by decide)⟩) ?_
            first | exact t1 (by omega) | exact t2 (by omega) | exact h0 (by omega) | exact h1 (by omega) | (exfalso; omega)
          · show Es G 37 39 [some (aR 0 (0 : Int)), some (aI c), some (aI p), some (aI r)] [aI (0 : Int)] S _ _
            refine es_if rfl 70 rfl ⟨by decide, by decide⟩ (fun (g39 : ¬ (0 : Int) = (0 : Int)) => absurd g39 (by decide)) (fun (g39 : ¬ (¬ (0 : Int) = (0 : Int))) => ?_)
            refine es_sg 6 (p := ((0 : Int) = 0) ∧ ((((0 : Int) = 0) ∧ (0 ≤ p ∧ p < 60)) ∧ (0 ≤ p ∧ p < 60))) (pc' := 52) (ls' := [some (aR 0 (0 : Int)), some (aI c), some (aI p), some (aI r)]) (st' := [aI (-1 : Int), aI (S 1 p 5)]) (S' := S) rfl ⟨rfl, ⟨rfl, (by omega)⟩, (by omega)⟩ ?_
            refine es_icmp rfl 70 rfl (rgI hg1 (t := 1) (i := p) (q := (5 : Int)) (by omega : 0 ≤ p ∧ p < 60) (by omega) rfl) ⟨by decide, by decide⟩ (fun (g52 : ¬ (S 1 p 5) = (-1 : Int)) => ?_) (fun (g52 : ¬ (¬ (S 1 p 5) = (-1 : Int))) => ?_)
            · refine es_s0 1 (pc' := 71) (ls' := [some (aR 0 (0 : Int)), some (aI c), some (aI p), some (aI r)]) (st' := [aI (0 : Int)]) (S' := S) rfl ?_
              refine es_iret rfl rfl rfl (Or.inr ⟨rfl, (by decide)⟩) ?_
              first | exact t1 (by omega) | exact t2 (by omega) | exact h0 (by omega) | exact h1 (by omega) | (exfalso; omega)
            · refine es_sg 6 (p := ((0 : Int) = 0) ∧ ((((0 : Int) = 0) ∧ (0 ≤ c ∧ c < 20)) ∧ (0 ≤ c ∧ c < 20))) (pc' := 65) (ls' := [some (aR 0 (0 : Int)), some (aI c), some (aI p), some (aI r)]) (st' := [aI r, aR 3 c]) (S' := S) rfl ⟨rfl, ⟨rfl, (by omega)⟩, (by omega)⟩ ?_
              refine es_sg 2 (p := (0 ≤ c ∧ c < 20) ∧ (0 ≤ r ∧ r < 20)) (pc' := 67) (ls' := [some (aR 0 (0 : Int)), some (aI c), some (aI p), some (aI r)]) (st' := [aI (-1 : Int), aI (S 3 c r)]) (S' := S) rfl ⟨(by omega), (by omega)⟩ ?_
              refine es_icmp rfl 72 rfl (rgI hg1 (t := 3) (i := c) (q := r) (by omega : 0 ≤ c ∧ c < 20) (by omega) rfl) ⟨by decide, by decide⟩ (fun (g67 : (S 3 c r) = (-1 : Int)) => ?_) (fun (g67 : ¬ ((S 3 c r) = (-1 : Int))) => ?_)
              · refine es_s0 4 (pc' := 76) (ls' := [some (aR 0 (0 : Int)), some (aI c), some (aI p), some (aI r)]) (st' := [aI r, aI p, aI c, aR 0 (0 : Int)]) (S' := S) rfl ?_
                refine es_callV rfl rfl 0 (0 : Int) [aI c, aI p, aI r] [] rfl rfl rfl rfl (Nat.le_of_ble_eq_true rfl) (Nat.le_of_ble_eq_true rfl) (Nat.le_of_ble_eq_true rfl) ?_
                refine m36 (c := c) (p := p) (r := r) (by omega) (by omega) (by omega) (hs _ (by omega) (by omega)) ?_
                show Es G 37 79 [some (aR 0 (0 : Int)), some (aI c), some (aI p), some (aI r)] [] (su (su (su (su S 3 c r p) 2 c 5 ((S 2 c 5) + 1)) 1 p 5 c) 1 p 6 r) _ _
                refine es_rg (fun hg2 => ?_)
                refine es_s0 1 (pc' := 80) (ls' := [some (aR 0 (0 : Int)), some (aI c), some (aI p), some (aI r)]) (st' := [aI (1 : Int)]) (S' := su (su (su (su S 3 c r p) 2 c 5 ((S 2 c 5) + 1)) 1 p 5 c) 1 p 6 r) rfl ?_
                refine es_iret rfl rfl rfl (Or.inr ⟨rfl, (by decide)⟩) ?_
                first | exact t1 (by omega) | exact t2 (by omega) | exact h0 (by omega) | exact h1 (by omega) | (exfalso; omega)
              · refine es_s0 1 (pc' := 71) (ls' := [some (aR 0 (0 : Int)), some (aI c), some (aI p), some (aI r)]) (st' := [aI (0 : Int)]) (S' := S) rfl ?_
                refine es_iret rfl rfl rfl (Or.inr ⟨rfl, (by decide)⟩) ?_
                first | exact t1 (by omega) | exact t2 (by omega) | exact h0 (by omega) | exact h1 (by omega) | (exfalso; omega)
        · refine es_throw rfl ?_
          first | exact t1 (by omega) | exact t2 (by omega) | exact h0 (by omega) | exact h1 (by omega) | (exfalso; omega)
    · first | exact t1 (by omega) | exact t2 (by omega) | exact h0 (by omega) | exact h1 (by omega) | (exfalso; omega)
  · first | exact t1 (by omega) | exact t2 (by omega) | exact h0 (by omega) | exact h1 (by omega) | (exfalso; omega)
theorem m63 {G : Gw} {S : Sg} {k : Nat} {Q : AQ} (hnc : 0 ≤ S 0 0 6 ∧ S 0 0 6 ≤ 20) {i : Int} (hi : 0 ≤ i ∧ i < 60) (h1 : (0 ≤ S 1 i 5 ∧ S 1 i 5 < S 0 0 6) ∧ ¬ S 2 (S 1 i 5) 0 = -1 → Q (.inl (some (aI 1))) S) (h0 : ¬ ((0 ≤ S 1 i 5 ∧ S 1 i 5 < S 0 0 6) ∧ ¬ S 2 (S 1 i 5) 0 = -1) → Q (.inl (some (aI 0))) S) : Es G 63 0 (aEnt 2 [aR 0 (0 : Int), aR 1 i]) [] S (k + 1) Q := by
  refine es_rg (fun hg1 => ?_)
  refine es_sg 3 (p := 0 ≤ i ∧ i < 60) (pc' := 5) (ls' := [some (aR 0 (0 : Int)), some (aR 1 i)]) (st' := [aI (S 1 i 5), aR 0 (0 : Int)]) (S' := S) rfl (by omega) ?_
  refine es_callV rfl rfl 0 (0 : Int) [aI (S 1 i 5)] [] rfl rfl rfl rfl (Nat.le_of_ble_eq_true rfl) (Nat.le_of_ble_eq_true rfl) (Nat.le_of_ble_eq_true rfl) ?_
  refine m33 (n := (S 1 i 5)) (rgI hg1 (t := 1) (i := i) (q := (5 : Int)) (by omega : 0 ≤ i ∧ i < 60) (by omega) rfl) (fun hc5 => ?_) (fun hc5 => ?_)
  · show Es G 63 8 [some (aR 0 (0 : Int)), some (aR 1 i)] [aI (1 : Int)] S _ _
    refine es_if rfl 30 rfl ⟨by decide, by decide⟩ (fun (g8 : (1 : Int) = (0 : Int)) => absurd g8 (by decide)) (fun (g8 : ¬ ((1 : Int) = (0 : Int))) => ?_)
    refine es_sg 5 (p := ((0 : Int) = 0) ∧ ((0 ≤ i ∧ i < 60) ∧ (((0 : Int) = 0) ∧ (0 ≤ (S 1 i 5) ∧ (S 1 i 5) < 20)))) (pc' := 20) (ls' := [some (aR 0 (0 : Int)), some (aR 1 i)]) (st' := [aR 2 (S 1 i 5)]) (S' := S) rfl ⟨rfl, (by omega), ⟨rfl, (by omega)⟩⟩ ?_
    refine es_callV rfl rfl 2 (S 1 i 5) [] [] rfl rfl rfl (show 0 ≤ (S 1 i 5) ∧ (S 1 i 5) < 20 from (by omega)) (Nat.le_of_ble_eq_true rfl) (Nat.le_of_ble_eq_true rfl) (Nat.le_of_ble_eq_true rfl) ?_
    refine m35 (c := (S 1 i 5)) (by omega) (fun hc20 => ?_) (fun hc20 => ?_)
    · show Es G 63 23 [some (aR 0 (0 : Int)), some (aR 1 i)] [aI (1 : Int)] S _ _
      refine es_if rfl 30 rfl ⟨by decide, by decide⟩ (fun (g23 : (1 : Int) = (0 : Int)) => absurd g23 (by decide)) (fun (g23 : ¬ ((1 : Int) = (0 : Int))) => ?_)
      refine es_s0 2 (pc' := 31) (ls' := [some (aR 0 (0 : Int)), some (aR 1 i)]) (st' := [aI (1 : Int)]) (S' := S) rfl ?_
      refine es_iret rfl rfl rfl (Or.inr ⟨rfl, (by decide)⟩) ?_
      first | exact h1 (by omega) | exact h0 (by omega) | (exfalso; omega)
    · show Es G 63 23 [some (aR 0 (0 : Int)), some (aR 1 i)] [aI (0 : Int)] S _ _
      refine es_if rfl 30 rfl ⟨by decide, by decide⟩ (fun (g23 : (0 : Int) = (0 : Int)) => ?_) (fun (g23 : ¬ ((0 : Int) = (0 : Int))) => absurd g23 (by decide))
      refine es_s0 1 (pc' := 31) (ls' := [some (aR 0 (0 : Int)), some (aR 1 i)]) (st' := [aI (0 : Int)]) (S' := S) rfl ?_
      refine es_iret rfl rfl rfl (Or.inr ⟨rfl, (by decide)⟩) ?_
      first | exact h1 (by omega) | exact h0 (by omega) | (exfalso; omega)
  · show Es G 63 8 [some (aR 0 (0 : Int)), some (aR 1 i)] [aI (0 : Int)] S _ _
    refine es_if rfl 30 rfl ⟨by decide, by decide⟩ (fun (g8 : (0 : Int) = (0 : Int)) => ?_) (fun (g8 : ¬ ((0 : Int) = (0 : Int))) => absurd g8 (by decide))
    refine es_s0 1 (pc' := 31) (ls' := [some (aR 0 (0 : Int)), some (aR 1 i)]) (st' := [aI (0 : Int)]) (S' := S) rfl ?_
    refine es_iret rfl rfl rfl (Or.inr ⟨rfl, (by decide)⟩) ?_
    first | exact h1 (by omega) | exact h0 (by omega) | (exfalso; omega)
/-- a part is moved by hand -/
def fHand (S : Sg) (p x y : Int) (c : Bool) : Sg := bif c then fMv (su S 1 p 7 1) p x y (S 1 p 4) else fMv S p x y (S 1 p 4)
theorem m64 {G : Gw} {S : Sg} {k : Nat} {Q : AQ} (hnp : 0 ≤ S 0 0 5 ∧ S 0 0 5 ≤ 60) (hnc : 0 ≤ S 0 0 6 ∧ S 0 0 6 ≤ 20) {p x y : Int} (hp : r32 p) (hx : r64 x) (hy : r64 y) (t1 : ¬ (0 ≤ p ∧ p < S 0 0 5) → Q (.inr 1) S) (t2 : (0 ≤ p ∧ p < S 0 0 5) ∧ ¬ ((-1000000 ≤ x ∧ x ≤ 1000000) ∧ (-1000000 ≤ y ∧ y ≤ 1000000)) → Q (.inr 0) S) (h1 : ((0 ≤ p ∧ p < S 0 0 5) ∧ ((-1000000 ≤ x ∧ x ≤ 1000000) ∧ (-1000000 ≤ y ∧ y ≤ 1000000)) ∧ ((0 ≤ S 1 p 5 ∧ S 1 p 5 < S 0 0 6) ∧ ¬ S 2 (S 1 p 5) 0 = -1)) ∧ ¬ (S 1 p 2 = x ∧ S 1 p 3 = y) → Q (.inl (some (aI 1))) (fHand S p x y true)) (h0 : ((0 ≤ p ∧ p < S 0 0 5) ∧ ((-1000000 ≤ x ∧ x ≤ 1000000) ∧ (-1000000 ≤ y ∧ y ≤ 1000000)) ∧ ((0 ≤ S 1 p 5 ∧ S 1 p 5 < S 0 0 6) ∧ ¬ S 2 (S 1 p 5) 0 = -1)) ∧ (S 1 p 2 = x ∧ S 1 p 3 = y) → Q (.inl (some (aI 0))) (fHand S p x y true)) (h3 : ((0 ≤ p ∧ p < S 0 0 5) ∧ ((-1000000 ≤ x ∧ x ≤ 1000000) ∧ (-1000000 ≤ y ∧ y ≤ 1000000)) ∧ ¬ ((0 ≤ S 1 p 5 ∧ S 1 p 5 < S 0 0 6) ∧ ¬ S 2 (S 1 p 5) 0 = -1)) ∧ ¬ (S 1 p 2 = x ∧ S 1 p 3 = y) → Q (.inl (some (aI 1))) (fHand S p x y false)) (h2 : ((0 ≤ p ∧ p < S 0 0 5) ∧ ((-1000000 ≤ x ∧ x ≤ 1000000) ∧ (-1000000 ≤ y ∧ y ≤ 1000000)) ∧ ¬ ((0 ≤ S 1 p 5 ∧ S 1 p 5 < S 0 0 6) ∧ ¬ S 2 (S 1 p 5) 0 = -1)) ∧ (S 1 p 2 = x ∧ S 1 p 3 = y) → Q (.inl (some (aI 0))) (fHand S p x y false)) : Es G 64 0 (aEnt 7 [aR 0 (0 : Int), aI p, aL x, aL y]) [] S (k + 2) Q := by
  have e2 : su S 1 p 7 1 1 p 2 = S 1 p 2 := rfl
  have e3 : su S 1 p 7 1 1 p 3 = S 1 p 3 := rfl
  have e4 : su S 1 p 7 1 1 p 4 = S 1 p 4 := rfl
  refine es_rg (fun hg1 => ?_)
  refine es_s0 2 (pc' := 2) (ls' := [some (aR 0 (0 : Int)), some (aI p), some (aL x), none, some (aL y), none, none]) (st' := [aI p, aR 0 (0 : Int)]) (S' := S) rfl ?_
  refine es_callV rfl rfl 0 (0 : Int) [aI p] [] rfl rfl rfl rfl (Nat.le_of_ble_eq_true rfl) (Nat.le_of_ble_eq_true rfl) (Nat.le_of_ble_eq_true rfl) ?_
  refine m17 (n := p) (by assumption) (fun hc2 => ?_) (fun hc2 => ⟨⟨_, rfl, rfl, rfl⟩, ?_⟩)
  · show Es G 64 5 [some (aR 0 (0 : Int)), some (aI p), some (aL x), none, some (aL y), none, none] [] S _ _
    refine es_s0 2 (pc' := 8) (ls' := [some (aR 0 (0 : Int)), some (aI p), some (aL x), none, some (aL y), none, none]) (st' := [aL y, aL x]) (S' := S) rfl ?_
    refine es_callS rfl rfl [aL x, aL y] [] rfl rfl (Nat.le_of_ble_eq_true rfl) (Nat.le_of_ble_eq_true rfl) (Nat.le_of_ble_eq_true rfl) ?_
    refine m19 (by assumption) (by assumption) (fun hc8 => ?_) (fun hc8 => ⟨⟨_, rfl, rfl, rfl⟩, ?_⟩)
    · show Es G 64 11 [some (aR 0 (0 : Int)), some (aI p), some (aL x), none, some (aL y), none, none] [] S _ _
      refine es_sg 6 (p := ((0 : Int) = 0) ∧ (((0 : Int) = 0) ∧ (0 ≤ p ∧ p < 60))) (pc' := 20) (ls' := [some (aR 0 (0 : Int)), some (aI p), some (aL x), none, some (aL y), none, some (aR 1 p)]) (st' := [aR 0 (0 : Int)]) (S' := S) rfl ⟨rfl, ⟨rfl, (by omega)⟩⟩ ?_
      refine es_s0 1 (pc' := 22) (ls' := [some (aR 0 (0 : Int)), some (aI p), some (aL x), none, some (aL y), none, some (aR 1 p)]) (st' := [aR 1 p, aR 0 (0 : Int)]) (S' := S) rfl ?_
      refine es_callV rfl rfl 0 (0 : Int) [aR 1 p] [] rfl rfl rfl rfl (Nat.le_of_ble_eq_true rfl) (Nat.le_of_ble_eq_true rfl) (Nat.le_of_ble_eq_true rfl) ?_
      refine m63 hnc (i := p) (by omega) (fun hc22 => ?_) (fun hc22 => ?_)
      · show Es G 64 25 [some (aR 0 (0 : Int)), some (aI p), some (aL x), none, some (aL y), none, some (aR 1 p)] [aI (1 : Int)] S _ _
        refine es_if rfl 34 rfl ⟨by decide, by decide⟩ (fun (g25 : (1 : Int) = (0 : Int)) => absurd g25 (by decide)) (fun (g25 : ¬ ((1 : Int) = (0 : Int))) => ?_)
        refine es_sg 3 (p := (0 ≤ p ∧ p < 60) ∧ ((1 : Int) = 0 ∨ (1 : Int) = 1)) (pc' := 34) (ls' := [some (aR 0 (0 : Int)), some (aI p), some (aL x), none, some (aL y), none, some (aR 1 p)]) (st' := []) (S' := su S 1 p 7 1) rfl ⟨(by omega), (by decide)⟩ ?_
        refine es_rg (fun hg2 => ?_)
        refine es_sg 5 (p := 0 ≤ p ∧ p < 60) (pc' := 44) (ls' := [some (aR 0 (0 : Int)), some (aI p), some (aL x), none, some (aL y), none, some (aR 1 p)]) (st' := [aI (S 1 p 4), aL y, aL x, aR 1 p]) (S' := su S 1 p 7 1) rfl (by omega) ?_
        refine es_callV rfl rfl 1 p [aL x, aL y, aI (S 1 p 4)] [] rfl rfl rfl (show 0 ≤ p ∧ p < 60 from (by omega)) (Nat.le_of_ble_eq_true rfl) (Nat.le_of_ble_eq_true rfl) (Nat.le_of_ble_eq_true rfl) ?_
        refine m22 (i := p) (x := x) (y := y) (t := (S 1 p 4)) (by omega) (by assumption) (by assumption) (rgI hg1 (t := 1) (i := p) (q := (4 : Int)) (by omega : 0 ≤ p ∧ p < 60) (by omega) rfl) (fun hc44 => ?_) (fun hc44 => ?_)
        · show Es G 64 47 [some (aR 0 (0 : Int)), some (aI p), some (aL x), none, some (aL y), none, some (aR 1 p)] [aI (1 : Int)] (su (su (su (su S 1 p 7 1) 1 p 2 x) 1 p 3 y) 1 p 4 (S 1 p 4)) _ _
          refine es_rg (fun hg3 => ?_)
          refine es_iret rfl rfl rfl (Or.inr ⟨rfl, (by decide)⟩) ?_
          first | exact t1 (by omega) | exact t2 (by omega) | exact h1 (by omega) | exact h0 (by omega) | exact h3 (by omega) | exact h2 (by omega) | (exfalso; omega)
        · show Es G 64 47 [some (aR 0 (0 : Int)), some (aI p), some (aL x), none, some (aL y), none, some (aR 1 p)] [aI (0 : Int)] (su (su (su (su S 1 p 7 1) 1 p 2 x) 1 p 3 y) 1 p 4 (S 1 p 4)) _ _
          refine es_rg (fun hg4 => ?_)
          refine es_iret rfl rfl rfl (Or.inr ⟨rfl, (by decide)⟩) ?_
          first | exact t1 (by omega) | exact t2 (by omega) | exact h1 (by omega) | exact h0 (by omega) | exact h3 (by omega) | exact h2 (by omega) | (exfalso; omega)
      · show Es G 64 25 [some (aR 0 (0 : Int)), some (aI p), some (aL x), none, some (aL y), none, some (aR 1 p)] [aI (0 : Int)] S _ _
        refine es_if rfl 34 rfl ⟨by decide, by decide⟩ (fun (g25 : (0 : Int) = (0 : Int)) => ?_) (fun (g25 : ¬ ((0 : Int) = (0 : Int))) => absurd g25 (by decide))
        refine es_sg 5 (p := 0 ≤ p ∧ p < 60) (pc' := 44) (ls' := [some (aR 0 (0 : Int)), some (aI p), some (aL x), none, some (aL y), none, some (aR 1 p)]) (st' := [aI (S 1 p 4), aL y, aL x, aR 1 p]) (S' := S) rfl (by omega) ?_
        refine es_callV rfl rfl 1 p [aL x, aL y, aI (S 1 p 4)] [] rfl rfl rfl (show 0 ≤ p ∧ p < 60 from (by omega)) (Nat.le_of_ble_eq_true rfl) (Nat.le_of_ble_eq_true rfl) (Nat.le_of_ble_eq_true rfl) ?_
        refine m22 (i := p) (x := x) (y := y) (t := (S 1 p 4)) (by omega) (by assumption) (by assumption) (rgI hg1 (t := 1) (i := p) (q := (4 : Int)) (by omega : 0 ≤ p ∧ p < 60) (by omega) rfl) (fun hc44 => ?_) (fun hc44 => ?_)
        · show Es G 64 47 [some (aR 0 (0 : Int)), some (aI p), some (aL x), none, some (aL y), none, some (aR 1 p)] [aI (1 : Int)] (su (su (su S 1 p 2 x) 1 p 3 y) 1 p 4 (S 1 p 4)) _ _
          refine es_rg (fun hg5 => ?_)
          refine es_iret rfl rfl rfl (Or.inr ⟨rfl, (by decide)⟩) ?_
          first | exact t1 (by omega) | exact t2 (by omega) | exact h1 (by omega) | exact h0 (by omega) | exact h3 (by omega) | exact h2 (by omega) | (exfalso; omega)
        · show Es G 64 47 [some (aR 0 (0 : Int)), some (aI p), some (aL x), none, some (aL y), none, some (aR 1 p)] [aI (0 : Int)] (su (su (su S 1 p 2 x) 1 p 3 y) 1 p 4 (S 1 p 4)) _ _
          refine es_rg (fun hg6 => ?_)
          refine es_iret rfl rfl rfl (Or.inr ⟨rfl, (by decide)⟩) ?_
          first | exact t1 (by omega) | exact t2 (by omega) | exact h1 (by omega) | exact h0 (by omega) | exact h3 (by omega) | exact h2 (by omega) | (exfalso; omega)
    · first | exact t1 (by omega) | exact t2 (by omega) | exact h1 (by omega) | exact h0 (by omega) | exact h3 (by omega) | exact h2 (by omega) | (exfalso; omega)
  · first | exact t1 (by omega) | exact t2 (by omega) | exact h1 (by omega) | exact h0 (by omega) | exact h3 (by omega) | exact h2 (by omega) | (exfalso; omega)
/-- a room more -/
def fRoom (S : Sg) (a b c d : Int) : Sg := su (su (su (su (su S 4 (S 0 0 7) 0 a) 4 (S 0 0 7) 1 b) 4 (S 0 0 7) 2 c) 4 (S 0 0 7) 3 d) 0 0 7 (S 0 0 7 + 1)
theorem m76 {G : Gw} {S : Sg} {k : Nat} {Q : AQ} {r a b c d : Int} (hr : 0 ≤ r ∧ r < 10) (ha : r64 a) (hb : r64 b) (hc : r64 c) (hd : r64 d) (h : Q (.inl none) (su (su (su (su S 4 r 0 a) 4 r 1 b) 4 r 2 c) 4 r 3 d)) : Es G 76 0 (aEnt 9 [aR 4 r, aL a, aL b, aL c, aL d]) [] S (k + 0) Q := by
  refine es_rg (fun hg1 => ?_)
  refine es_sg 3 (p := (0 ≤ r ∧ r < 10) ∧ (r64 a)) (pc' := 5) (ls' := [some (aR 4 r), some (aL a), none, some (aL b), none, some (aL c), none, some (aL d), none]) (st' := []) (S' := su S 4 r 0 a) rfl ⟨(by omega), (by assumption)⟩ ?_
  refine es_rg (fun hg2 => ?_)
  refine es_sg 3 (p := (0 ≤ r ∧ r < 10) ∧ (r64 b)) (pc' := 10) (ls' := [some (aR 4 r), some (aL a), none, some (aL b), none, some (aL c), none, some (aL d), none]) (st' := []) (S' := su (su S 4 r 0 a) 4 r 1 b) rfl ⟨(by omega), (by assumption)⟩ ?_
  refine es_rg (fun hg3 => ?_)
  refine es_sg 3 (p := (0 ≤ r ∧ r < 10) ∧ (r64 c)) (pc' := 16) (ls' := [some (aR 4 r), some (aL a), none, some (aL b), none, some (aL c), none, some (aL d), none]) (st' := []) (S' := su (su (su S 4 r 0 a) 4 r 1 b) 4 r 2 c) rfl ⟨(by omega), (by assumption)⟩ ?_
  refine es_rg (fun hg4 => ?_)
  refine es_sg 3 (p := (0 ≤ r ∧ r < 10) ∧ (r64 d)) (pc' := 22) (ls' := [some (aR 4 r), some (aL a), none, some (aL b), none, some (aL c), none, some (aL d), none]) (st' := []) (S' := su (su (su (su S 4 r 0 a) 4 r 1 b) 4 r 2 c) 4 r 3 d) rfl ⟨(by omega), (by assumption)⟩ ?_
  refine es_rg (fun hg5 => ?_)
  refine es_vret rfl ?_
  exact h
theorem m77 {G : Gw} {S : Sg} {k : Nat} {Q : AQ} (hnr : 0 ≤ S 0 0 7 ∧ S 0 0 7 ≤ 10) {a b c d : Int} (ha : r64 a) (hb : r64 b) (hc : r64 c) (hd : r64 d) (t1 : ¬ ((a ≤ c ∧ b ≤ d) ∧ (-3000000 ≤ a ∧ -3000000 ≤ b ∧ c ≤ 3000000 ∧ d ≤ 3000000)) → Q (.inr 0) S) (h1 : ((a ≤ c ∧ b ≤ d) ∧ (-3000000 ≤ a ∧ -3000000 ≤ b ∧ c ≤ 3000000 ∧ d ≤ 3000000)) ∧ 10 ≤ S 0 0 7 → Q (.inl (some (aI (-1)))) S) (h0 : ((a ≤ c ∧ b ≤ d) ∧ (-3000000 ≤ a ∧ -3000000 ≤ b ∧ c ≤ 3000000 ∧ d ≤ 3000000)) ∧ S 0 0 7 < 10 → Q (.inl (some (aI (S 0 0 7)))) (fRoom S a b c d)) : Es G 77 0 (aEnt 9 [aR 0 (0 : Int), aL a, aL b, aL c, aL d]) [] S (k + 1) Q := by
  refine es_rg (fun hg1 => ?_)
  refine es_s0 2 (pc' := 3) (ls' := [some (aR 0 (0 : Int)), some (aL a), none, some (aL b), none, some (aL c), none, some (aL d), none]) (st' := [aL c, aL a]) (S' := S) rfl ?_
  refine es_lif rfl rfl 14 rfl (by assumption) (by assumption) (fun (g3 : c < a) => ?_) (fun (g3 : ¬ (c < a)) => ?_)
  · refine es_throw rfl ?_
    first | exact t1 (by omega) | exact h1 (by omega) | (rw [show (S 0 0 7 + 1 - 1 : Int) = S 0 0 7 from by omega]; exact h0 (by omega))
  · refine es_s0 2 (pc' := 10) (ls' := [some (aR 0 (0 : Int)), some (aL a), none, some (aL b), none, some (aL c), none, some (aL d), none]) (st' := [aL d, aL b]) (S' := S) rfl ?_
    refine es_lif rfl rfl 24 rfl (by assumption) (by assumption) (fun (g10 : b ≤ d) => ?_) (fun (g10 : ¬ (b ≤ d)) => ?_)
    · refine es_s0 2 (pc' := 28) (ls' := [some (aR 0 (0 : Int)), some (aL a), none, some (aL b), none, some (aL c), none, some (aL d), none]) (st' := [aL (-3000000 : Int), aL a]) (S' := S) rfl ?_
      refine es_lif rfl rfl 58 rfl (by assumption) ⟨by decide, by decide⟩ (fun (g28 : a < (-3000000 : Int)) => ?_) (fun (g28 : ¬ (a < (-3000000 : Int))) => ?_)
      · refine es_throw rfl ?_
        first | exact t1 (by omega) | exact h1 (by omega) | (rw [show (S 0 0 7 + 1 - 1 : Int) = S 0 0 7 from by omega]; exact h0 (by omega))
      · refine es_s0 2 (pc' := 36) (ls' := [some (aR 0 (0 : Int)), some (aL a), none, some (aL b), none, some (aL c), none, some (aL d), none]) (st' := [aL (-3000000 : Int), aL b]) (S' := S) rfl ?_
        refine es_lif rfl rfl 58 rfl (by assumption) ⟨by decide, by decide⟩ (fun (g36 : b < (-3000000 : Int)) => ?_) (fun (g36 : ¬ (b < (-3000000 : Int))) => ?_)
        · refine es_throw rfl ?_
          first | exact t1 (by omega) | exact h1 (by omega) | (rw [show (S 0 0 7 + 1 - 1 : Int) = S 0 0 7 from by omega]; exact h0 (by omega))
        · refine es_s0 2 (pc' := 45) (ls' := [some (aR 0 (0 : Int)), some (aL a), none, some (aL b), none, some (aL c), none, some (aL d), none]) (st' := [aL (3000000 : Int), aL c]) (S' := S) rfl ?_
          refine es_lif rfl rfl 58 rfl (by assumption) ⟨by decide, by decide⟩ (fun (g45 : (3000000 : Int) < c) => ?_) (fun (g45 : ¬ ((3000000 : Int) < c)) => ?_)
          · refine es_throw rfl ?_
            first | exact t1 (by omega) | exact h1 (by omega) | (rw [show (S 0 0 7 + 1 - 1 : Int) = S 0 0 7 from by omega]; exact h0 (by omega))
          · refine es_s0 2 (pc' := 54) (ls' := [some (aR 0 (0 : Int)), some (aL a), none, some (aL b), none, some (aL c), none, some (aL d), none]) (st' := [aL (3000000 : Int), aL d]) (S' := S) rfl ?_
            refine es_lif rfl rfl 68 rfl (by assumption) ⟨by decide, by decide⟩ (fun (g54 : d ≤ (3000000 : Int)) => ?_) (fun (g54 : ¬ (d ≤ (3000000 : Int))) => ?_)
            · refine es_sg 3 (p := (0 : Int) = 0) (pc' := 74) (ls' := [some (aR 0 (0 : Int)), some (aL a), none, some (aL b), none, some (aL c), none, some (aL d), none]) (st' := [aI (10 : Int), aI (S 0 0 7)]) (S' := S) rfl rfl ?_
              refine es_icmp rfl 79 rfl (rgI hg1 (t := 0) (i := (0 : Int)) (q := (7 : Int)) (by omega : 0 ≤ (0 : Int) ∧ (0 : Int) < 1) (by omega) rfl) ⟨by decide, by decide⟩ (fun (g74 : (S 0 0 7) < (10 : Int)) => ?_) (fun (g74 : ¬ ((S 0 0 7) < (10 : Int))) => ?_)
              · refine es_sg 6 (p := ((0 : Int) = 0) ∧ (((0 : Int) = 0) ∧ (((0 : Int) = 0) ∧ (0 ≤ (S 0 0 7) ∧ (S 0 0 7) < 10)))) (pc' := 89) (ls' := [some (aR 0 (0 : Int)), some (aL a), none, some (aL b), none, some (aL c), none, some (aL d), none]) (st' := [aL a, aR 4 (S 0 0 7)]) (S' := S) rfl ⟨rfl, rfl, ⟨rfl, (by omega)⟩⟩ ?_
                refine es_s0 3 (pc' := 94) (ls' := [some (aR 0 (0 : Int)), some (aL a), none, some (aL b), none, some (aL c), none, some (aL d), none]) (st' := [aL d, aL c, aL b, aL a, aR 4 (S 0 0 7)]) (S' := S) rfl ?_
                refine es_callV rfl rfl 4 (S 0 0 7) [aL a, aL b, aL c, aL d] [] rfl rfl rfl (show 0 ≤ (S 0 0 7) ∧ (S 0 0 7) < 10 from (by omega)) (Nat.le_of_ble_eq_true rfl) (Nat.le_of_ble_eq_true rfl) (Nat.le_of_ble_eq_true rfl) ?_
                refine m76 (r := (S 0 0 7)) (by omega) (by assumption) (by assumption) (by assumption) (by assumption) ?_
                show Es G 77 97 [some (aR 0 (0 : Int)), some (aL a), none, some (aL b), none, some (aL c), none, some (aL d), none] [] (su (su (su (su S 4 (S 0 0 7) 0 a) 4 (S 0 0 7) 1 b) 4 (S 0 0 7) 2 c) 4 (S 0 0 7) 3 d) _ _
                refine es_rg (fun hg2 => ?_)
                refine es_sg 6 (p := ((0 : Int) = 0) ∧ (((0 : Int) = 0) ∧ (r32 ((S 0 0 7) + 1)))) (pc' := 107) (ls' := [some (aR 0 (0 : Int)), some (aL a), none, some (aL b), none, some (aL c), none, some (aL d), none]) (st' := []) (S' := su (su (su (su (su S 4 (S 0 0 7) 0 a) 4 (S 0 0 7) 1 b) 4 (S 0 0 7) 2 c) 4 (S 0 0 7) 3 d) 0 0 7 ((S 0 0 7) + 1)) rfl ⟨rfl, ⟨rfl, ⟨by omega, by omega⟩⟩⟩ ?_
                refine es_rg (fun hg3 => ?_)
                refine es_sg 4 (p := (0 : Int) = 0) (pc' := 113) (ls' := [some (aR 0 (0 : Int)), some (aL a), none, some (aL b), none, some (aL c), none, some (aL d), none]) (st' := [aI (((S 0 0 7) + 1) - 1)]) (S' := su (su (su (su (su S 4 (S 0 0 7) 0 a) 4 (S 0 0 7) 1 b) 4 (S 0 0 7) 2 c) 4 (S 0 0 7) 3 d) 0 0 7 ((S 0 0 7) + 1)) rfl rfl ?_
                refine es_iret rfl rfl rfl (Or.inl rfl) ?_
                first | exact t1 (by omega) | exact h1 (by omega) | (rw [show (S 0 0 7 + 1 - 1 : Int) = S 0 0 7 from by omega]; exact h0 (by omega))
              · refine es_s0 1 (pc' := 78) (ls' := [some (aR 0 (0 : Int)), some (aL a), none, some (aL b), none, some (aL c), none, some (aL d), none]) (st' := [aI (-1 : Int)]) (S' := S) rfl ?_
                refine es_iret rfl rfl rfl (Or.inl rfl) ?_
                first | exact t1 (by omega) | exact h1 (by omega) | (rw [show (S 0 0 7 + 1 - 1 : Int) = S 0 0 7 from by omega]; exact h0 (by omega))
            · refine es_throw rfl ?_
              first | exact t1 (by omega) | exact h1 (by omega) | (rw [show (S 0 0 7 + 1 - 1 : Int) = S 0 0 7 from by omega]; exact h0 (by omega))
    · refine es_throw rfl ?_
      first | exact t1 (by omega) | exact h1 (by omega) | (rw [show (S 0 0 7 + 1 - 1 : Int) = S 0 0 7 from by omega]; exact h0 (by omega))
