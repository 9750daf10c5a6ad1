/-! THE LAW: the loop over the calls -/
theorem law_next {G : Gw} {S : Sg} {sz sl k : Nat} {Q : ZQ} {i : Int} {o5 o6 o7 : Option AV} (h : Ez G 124 23 [some (aR 70 (0 : Int)), some (aR 0 (0 : Int)), some (aR 20 (0 : Int)), some (aR 51 (0 : Int)), some (aI (i + 9)), o5, o6, o7] [] S sz sl k Q) : Ez G 124 1789 [some (aR 70 (0 : Int)), some (aR 0 (0 : Int)), some (aR 20 (0 : Int)), some (aR 51 (0 : Int)), some (aI i), o5, o6, o7] [] S sz sl k Q := by
  refine ez_rg (fun hg1 => ?_)
  refine ez_s0 2 (pc' := 23) (ls' := [some (aR 70 (0 : Int)), some (aR 0 (0 : Int)), some (aR 20 (0 : Int)), some (aR 51 (0 : Int)), some (aI (i + 9)), o5, o6, o7]) (st' := []) (S' := S) rfl ?_
  exact h
theorem law_l {G : Gw} {k : Nat} {Q : ZQ} (hQ : ∀ S sz sl, Q (.inl (some (aI 1))) S sz sl) : ∀ (n : Nat) (A S : Sg) (sz sl : Nat) (i : Int) (o5 o6 o7 : Option AV) (_ : 0 ≤ i ∧ i ≤ 4617) (_ : (G.xl : Int) ≤ i + 9 * n) (_ : CI A) (_ : Lk A S) (_ : RR A S) (_ : sz + 2 + n ≤ G.b0 + mm_mxC) (_ : sl + 12 + 6 * n ≤ mm_mxS), Ez G 124 23 [some (aR 70 (0 : Int)), some (aR 0 (0 : Int)), some (aR 20 (0 : Int)), some (aR 51 (0 : Int)), some (aI i), o5, o6, o7] [] S sz sl (k + 10) Q := by
  intro n
  induction n with
  | zero =>
    intro A S sz sl i o5 o6 o7 hi hn hA hL hR hza hla
    refine ez_xl (fun hx => ?_)
    refine ez_rg (fun hg1 => ?_)
    refine ez_s0 5 (pc' := 30) (ls' := [some (aR 70 (0 : Int)), some (aR 0 (0 : Int)), some (aR 20 (0 : Int)), some (aR 51 (0 : Int)), some (aI i), o5, o6, o7]) (st' := [aI ((G.xl : Int) - 9), aI i]) (S' := S) rfl ?_
    refine ez_icmp rfl 1795 rfl ⟨by omega, by omega⟩ ⟨by omega, by omega⟩ (fun (g30 : ((G.xl : Int) - 9) < i) => ?_) (fun (g30 : ¬ (((G.xl : Int) - 9) < i)) => ?_)
    · refine ez_s0 1 (pc' := 1796) (ls' := [some (aR 70 (0 : Int)), some (aR 0 (0 : Int)), some (aR 20 (0 : Int)), some (aR 51 (0 : Int)), some (aI i), o5, o6, o7]) (st' := [aI (1 : Int)]) (S' := S) rfl ?_
      refine ez_iret rfl rfl rfl (Or.inr ⟨rfl, (by decide)⟩) ?_
      exact hQ _ _ _
    · exfalso; omega
  | succ n ih =>
    intro A S sz sl i o5 o6 o7 hi hn hA hL hR hza hla
    refine ez_xl (fun hx => ?_)
    refine ez_rg (fun hg1 => ?_)
    refine ez_s0 5 (pc' := 30) (ls' := [some (aR 70 (0 : Int)), some (aR 0 (0 : Int)), some (aR 20 (0 : Int)), some (aR 51 (0 : Int)), some (aI i), o5, o6, o7]) (st' := [aI ((G.xl : Int) - 9), aI i]) (S' := S) rfl ?_
    refine ez_icmp rfl 1795 rfl ⟨by omega, by omega⟩ ⟨by omega, by omega⟩ (fun (g30 : ((G.xl : Int) - 9) < i) => ?_) (fun (g30 : ¬ (((G.xl : Int) - 9) < i)) => ?_)
    · refine ez_s0 1 (pc' := 1796) (ls' := [some (aR 70 (0 : Int)), some (aR 0 (0 : Int)), some (aR 20 (0 : Int)), some (aR 51 (0 : Int)), some (aI i), o5, o6, o7]) (st' := [aI (1 : Int)]) (S' := S) rfl ?_
      refine ez_iret rfl rfl rfl (Or.inr ⟨rfl, (by decide)⟩) ?_
      exact hQ _ _ _
    · refine ez_sg 5 (p := 0 ≤ i ∧ i < (G.xl : Int)) (pc' := 40) (ls' := [some (aR 70 (0 : Int)), some (aR 0 (0 : Int)), some (aR 20 (0 : Int)), some (aR 51 (0 : Int)), some (aI i), o5, o6, o7]) (st' := [aI (aAnd (scV G i) (15 : Int))]) (S' := S) rfl (by omega) ?_
      refine ez_ts rfl (r32_of _) (fun (g40 : (aAnd (scV G i) (15 : Int)) < 0 ∨ 15 < (aAnd (scV G i) (15 : Int))) => ⟨1789, rfl, ?_⟩) (fun n hn hb => ?_)
      · exact law_next (ih A S sz sl (i + 9) _ _ _ (by omega) (by omega) hA hL hR (by omega) (by omega))
      · match n, hn with
        | 0, hn =>
          have g40 : (aAnd (scV G i) (15 : Int)) = 0 := by simpa using hn
          refine ⟨80, 120, rfl, rfl, ?_⟩
          exact lawPart (A := A) (by omega) hx hA hL hR (by omega) (by omega) (fun A' S' sz' sl' u5 u6 u7 j1 j2 j3 j4 j5 => law_next (ih A' S' sz' sl' (i + 9) u5 u6 u7 (by omega) (by omega) j1 j2 j3 (by omega) (by omega)))
        | 1, hn =>
          have g40 : (aAnd (scV G i) (15 : Int)) = 1 := by simpa using hn
          refine ⟨212, 252, rfl, rfl, ?_⟩
          exact lawPut (A := A) (by omega) hx hA hL hR (by omega) (by omega) (fun A' S' sz' sl' u5 u6 u7 j1 j2 j3 j4 j5 => law_next (ih A' S' sz' sl' (i + 9) u5 u6 u7 (by omega) (by omega) j1 j2 j3 (by omega) (by omega)))
        | 2, hn =>
          have g40 : (aAnd (scV G i) (15 : Int)) = 2 := by simpa using hn
          refine ⟨377, 417, rfl, rfl, ?_⟩
          exact lawChan (A := A) (by omega) hx hA hL hR (by omega) (by omega) (fun A' S' sz' sl' u5 u6 u7 j1 j2 j3 j4 j5 => law_next (ih A' S' sz' sl' (i + 9) u5 u6 u7 (by omega) (by omega) j1 j2 j3 (by omega) (by omega)))
        | 3, hn =>
          have g40 : (aAnd (scV G i) (15 : Int)) = 3 := by simpa using hn
          refine ⟨390, 430, rfl, rfl, ?_⟩
          exact lawInto (A := A) (by omega) hx hA hL hR (by omega) (by omega) (fun A' S' sz' sl' u5 u6 u7 j1 j2 j3 j4 j5 => law_next (ih A' S' sz' sl' (i + 9) u5 u6 u7 (by omega) (by omega) j1 j2 j3 (by omega) (by omega)))
        | 4, hn =>
          have g40 : (aAnd (scV G i) (15 : Int)) = 4 := by simpa using hn
          refine ⟨477, 517, rfl, rfl, ?_⟩
          exact lawCopy (A := A) (by omega) hx hA hL hR (by omega) (by omega) (fun A' S' sz' sl' u5 u6 u7 j1 j2 j3 j4 j5 => law_next (ih A' S' sz' sl' (i + 9) u5 u6 u7 (by omega) (by omega) j1 j2 j3 (by omega) (by omega)))
        | 5, hn =>
          have g40 : (aAnd (scV G i) (15 : Int)) = 5 := by simpa using hn
          refine ⟨635, 675, rfl, rfl, ?_⟩
          exact lawHand (A := A) (by omega) hx hA hL hR (by omega) (by omega) (fun A' S' sz' sl' u5 u6 u7 j1 j2 j3 j4 j5 => law_next (ih A' S' sz' sl' (i + 9) u5 u6 u7 (by omega) (by omega) j1 j2 j3 (by omega) (by omega)))
        | 6, hn =>
          have g40 : (aAnd (scV G i) (15 : Int)) = 6 := by simpa using hn
          refine ⟨786, 826, rfl, rfl, ?_⟩
          exact lawCarry (A := A) (by omega) hx hA hL hR (by omega) (by omega) (fun A' S' sz' sl' u5 u6 u7 j1 j2 j3 j4 j5 => law_next (ih A' S' sz' sl' (i + 9) u5 u6 u7 (by omega) (by omega) j1 j2 j3 (by omega) (by omega)))
        | 7, hn =>
          have g40 : (aAnd (scV G i) (15 : Int)) = 7 := by simpa using hn
          refine ⟨842, 882, rfl, rfl, ?_⟩
          exact lawTold (A := A) (by omega) hx hA hL hR (by omega) (by omega) (fun A' S' sz' sl' u5 u6 u7 j1 j2 j3 j4 j5 => law_next (ih A' S' sz' sl' (i + 9) u5 u6 u7 (by omega) (by omega) j1 j2 j3 (by omega) (by omega)))
        | 8, hn =>
          have g40 : (aAnd (scV G i) (15 : Int)) = 8 := by simpa using hn
          refine ⟨867, 907, rfl, rfl, ?_⟩
          exact lawRoom (A := A) (by omega) hx hA hL hR (by omega) (by omega) (fun A' S' sz' sl' u5 u6 u7 j1 j2 j3 j4 j5 => law_next (ih A' S' sz' sl' (i + 9) u5 u6 u7 (by omega) (by omega) j1 j2 j3 (by omega) (by omega)))
        | 9, hn =>
          have g40 : (aAnd (scV G i) (15 : Int)) = 9 := by simpa using hn
          refine ⟨1093, 1133, rfl, rfl, ?_⟩
          exact lawMemb (A := A) (by omega) hx hA hL hR (by omega) (by omega) (fun A' S' sz' sl' u5 u6 u7 j1 j2 j3 j4 j5 => law_next (ih A' S' sz' sl' (i + 9) u5 u6 u7 (by omega) (by omega) j1 j2 j3 (by omega) (by omega)))
        | 10, hn =>
          have g40 : (aAnd (scV G i) (15 : Int)) = 10 := by simpa using hn
          refine ⟨1168, 1208, rfl, rfl, ?_⟩
          exact lawOuts (A := A) (by omega) hx hA hL hR (by omega) (by omega) (fun A' S' sz' sl' u5 u6 u7 j1 j2 j3 j4 j5 => law_next (ih A' S' sz' sl' (i + 9) u5 u6 u7 (by omega) (by omega) j1 j2 j3 (by omega) (by omega)))
        | 11, hn =>
          have g40 : (aAnd (scV G i) (15 : Int)) = 11 := by simpa using hn
          refine ⟨1236, 1276, rfl, rfl, ?_⟩
          exact lawLabel (A := A) (by omega) hx hA hL hR (by omega) (by omega) (fun A' S' sz' sl' u5 u6 u7 j1 j2 j3 j4 j5 => law_next (ih A' S' sz' sl' (i + 9) u5 u6 u7 (by omega) (by omega) j1 j2 j3 (by omega) (by omega)))
        | 12, hn =>
          have g40 : (aAnd (scV G i) (15 : Int)) = 12 := by simpa using hn
          refine ⟨1380, 1420, rfl, rfl, ?_⟩
          exact lawLabAt (A := A) (by omega) hx hA hL hR (by omega) (by omega) (fun A' S' sz' sl' u5 u6 u7 j1 j2 j3 j4 j5 => law_next (ih A' S' sz' sl' (i + 9) u5 u6 u7 (by omega) (by omega) j1 j2 j3 (by omega) (by omega)))
        | 13, hn =>
          have g40 : (aAnd (scV G i) (15 : Int)) = 13 := by simpa using hn
          refine ⟨1447, 1487, rfl, rfl, ?_⟩
          exact lawArray (A := A) (by omega) hx hA hL hR (by omega) (by omega) (fun A' S' sz' sl' u5 u6 u7 j1 j2 j3 j4 j5 => law_next (ih A' S' sz' sl' (i + 9) u5 u6 u7 (by omega) (by omega) j1 j2 j3 (by omega) (by omega)))
        | 14, hn =>
          have g40 : (aAnd (scV G i) (15 : Int)) = 14 := by simpa using hn
          refine ⟨1619, 1659, rfl, rfl, ?_⟩
          exact lawMirr (A := A) (by omega) hx hA hL hR (by omega) (by omega) (fun A' S' sz' sl' u5 u6 u7 j1 j2 j3 j4 j5 => law_next (ih A' S' sz' sl' (i + 9) u5 u6 u7 (by omega) (by omega) j1 j2 j3 (by omega) (by omega)))
        | 15, hn =>
          have g40 : (aAnd (scV G i) (15 : Int)) = 15 := by simpa using hn
          refine ⟨1682, 1722, rfl, rfl, ?_⟩
          exact lawAt (A := A) (by omega) hx hA hL hR (by omega) (by omega) (fun A' S' sz' sl' u5 u6 u7 j1 j2 j3 j4 j5 => law_next (ih A' S' sz' sl' (i + 9) u5 u6 u7 (by omega) (by omega) j1 j2 j3 (by omega) (by omega)))
        | n + 16, hn => exact absurd hb (by omega)
