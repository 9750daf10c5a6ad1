/-! THE LAW: what the calls leave is in order -/
section OC
variable {A : Sg}
theorem opPart_ci {w hh : Int} (hA : CI A) : CI (opPart A w hh).2.1 := by
  unfold opPart
  split
  · exact hA
  · split
    · exact hA
    · exact hA.part (by omega) (by omega) (by omega)
theorem opPut_ci {p x y t : Int} (hA : CI A) : CI (opPut A p x y t).2.1 := by
  unfold opPut
  split
  · exact hA
  · split
    · exact hA
    · split
      · exact hA.mv (by omega) (by omega) (by omega) (by omega) (fun _ => by omega)
      · exact hA.mv (by omega) (by omega) (by omega) (by omega) (fun _ => by omega)
theorem opChan_ci (hA : CI A) : CI (opChan A).2.1 := by
  unfold opChan
  split
  · exact hA
  · exact hA.chan (by omega)
theorem opInto_ci {c p r : Int} (hA : CI A) : CI (opInto A c p r).2.1 := by
  unfold opInto
  split
  · exact hA
  · split
    · exact hA
    · split
      · exact hA
      · exact hA.join (by omega) (by omega) (by omega) (by omega) (by omega) (fun q => by omega)
theorem opCopy_ci {m dx dy t : Int} (hA : CI A) : CI (opCopy A m dx dy t).2.1 := by
  unfold opCopy
  split
  · exact hA
  · split
    · exact hA
    · split
      · exact hA
      · exact hA.ac ⟨by omega, by omega⟩ (by omega) (by omega) (by omega)
theorem fHand_ci {p x y : Int} {b : Bool} (hA : CI A) (hp : 0 ≤ p ∧ p < A 0 0 5) (hx : -1000000 ≤ x ∧ x ≤ 1000000) (hy : -1000000 ≤ y ∧ y ≤ 1000000) : CI (fHand A p x y b) := by
  have n1 := hA.1.1
  have ht := (hA.2.1 p hp.1 (by omega)).1
  unfold okXY at ht
  cases b with
  | true => exact (hA.hand hp).mv (show 0 ≤ p ∧ p < A 0 0 5 from hp) ht.1 (by omega) (by omega) (fun _ => ⟨hx, hy⟩)
  | false => exact hA.mv hp ht.1 (by omega) (by omega) (fun _ => ⟨hx, hy⟩)
theorem opHand_ci {p x y : Int} (hA : CI A) : CI (opHand A p x y).2.1 := by
  unfold opHand
  split
  · exact hA
  · split
    · exact hA
    · split
      · exact fHand_ci (p := p) (x := x) (y := y) (b := true) hA (by omega) (by omega) (by omega)
      · split
        · exact fHand_ci (p := p) (x := x) (y := y) (b := true) hA (by omega) (by omega) (by omega)
        · split
          · exact fHand_ci (p := p) (x := x) (y := y) (b := false) hA (by omega) (by omega) (by omega)
          · exact fHand_ci (p := p) (x := x) (y := y) (b := false) hA (by omega) (by omega) (by omega)
theorem opCarry_ci {m : Int} (hA : CI A) : CI (opCarry A m).2.1 := by
  have n2 := hA.1.2.1
  unfold opCarry
  split
  · exact hA
  · split
    · exact hA
    · exact hA.told0.cr _ (show (0 : Int) ≤ 0 ∧ 0 + (((A 0 0 6).toNat : Nat) : Int) ≤ A 0 0 6 from by omega)
theorem opTold_ci {kk : Int} (hA : CI A) : CI (opTold A kk).2.1 := hA
theorem opRoom_ci {aa bb cc dd : Int} (hA : CI A) : CI (opRoom A aa bb cc dd).2.1 := by
  unfold opRoom
  split
  · exact hA
  · split
    · exact hA
    · exact hA.room (by omega)
theorem opMemb_ci {r p : Int} (hA : CI A) : CI (opMemb A r p).2.1 := by
  unfold opMemb
  split
  · exact hA
  · split
    · exact hA
    · exact hA.memb
theorem opOuts_ci {r kk : Int} (hA : CI A) : CI (opOuts A r kk).2.1 := by
  unfold opOuts
  split
  · exact hA
  · exact hA
theorem CI.undo {p w hh : Int} (h : CI A) (hp : 0 ≤ p ∧ p < A 0 0 5) : CI (dropL (giveL (dropL A p) p w hh) p) := by
  have n1 := h.1.1
  have hd := h.drop hp
  have e8 : ∀ i, dropL (giveL (dropL A p) p w hh) p 1 i 8 = dropL A p 1 i 8 := fun i => by
    rw [dropL_8, giveL_8, dropL_8]
    by_cases e : i = p
    · rw [if_pos e, if_pos e]
    · rw [if_neg e, if_neg e, if_neg e]
  refine hd.lab (fun t i j q => ?_) (fun i _ _ => e8 i) ⟨fun i i0 i1 hi => ?_, ?_⟩
  · rw [dropL_o q, giveL_o q]
  · rw [e8] at hi
    have e : ¬ i = p := fun z => by rw [z, dropL_8, if_pos rfl] at hi; omega
    have g := hd.2.2.2.2.2.1 i i0 i1 hi
    rw [dropL_11, if_neg e]
    show (1 ≤ giveL (dropL A p) p w hh 1 i 9 ∧ giveL (dropL A p) p w hh 1 i 9 ≤ 1000) ∧ (1 ≤ giveL (dropL A p) p w hh 1 i 10 ∧ giveL (dropL A p) p w hh 1 i 10 ≤ 1000) ∧ (0 ≤ giveL (dropL A p) p w hh 1 i 11 ∧ giveL (dropL A p) p w hh 1 i 11 < 8)
    rw [giveL_9, giveL_10, giveL_11, if_neg e, if_neg e, if_neg e]
    exact g
  · have : labC (dropL (giveL (dropL A p) p w hh) p) = labC (dropL A p) := cntF_ext _ _ (fun q _ _ => by rw [e8])
    rw [this]
    exact hd.2.2.2.2.2.2
theorem opLabel_ci {p w hh : Int} (hA : CI A) : CI (opLabel A p w hh).2.1 := by
  unfold opLabel
  split
  · exact hA
  · split
    · exact hA
    · split
      · exact hA.drop (by omega)
      · have hp : 0 ≤ p ∧ p < A 0 0 5 := by omega
        by_cases z : ∃ D, oW (giveL (dropL A p) p w hh) D
        · rw [dif_pos z]
          refine (hA.drop hp).spot (show 0 ≤ p ∧ p < A 0 0 5 from hp) (by rw [dropL_8, if_pos rfl]; decide) (by omega) (by omega) (by omega) ?_
          have h3 := labC_n (giveL (dropL A p) p w hh)
          have h4 := (Classical.choose_spec z).1.dg
          rw [show (((labC (giveL (dropL A p) p w hh)).toNat : Nat) : Int) = labC (giveL (dropL A p) p w hh) from by omega] at h4
          exact h4
        · rw [dif_neg z]
          exact hA.undo hp
theorem opLabAt_ci {p a : Int} (hA : CI A) : CI (opLabAt A p a).2.1 := by
  unfold opLabAt
  repeat' split
  all_goals exact hA
theorem opArray_ci {m w rows dx dy : Int} (hA : CI A) : CI (opArray A m w rows dx dy).2.1 := by
  unfold opArray
  split
  · exact hA
  · split
    · exact hA
    · split
      · exact hA
      · have hw : 1 ≤ w ∧ w ≤ 10 := by omega
        have hr : 1 ≤ rows ∧ rows ≤ 10 := by omega
        have hm : 1 ≤ w * rows := Int.mul_pos (by omega) (by omega)
        exact CI.ar hw hr (by omega) (by omega) (w * rows).toNat A 0 hA ⟨by omega, by omega⟩ (by omega) (by omega)
theorem opMirr_ci {c : Int} (hA : CI A) (hz : 0 ≤ c ∧ c < 20 → A 2 c 4 = 0 ∨ A 2 c 4 = 1) : CI (opMirr A c).2.1 := by
  have n2 := hA.1.2.1
  unfold opMirr
  split
  · exact hA
  · split
    · exact hA
    · exact mi_ci hA (by omega) (hz (by omega)) (by omega)
theorem opAt_ci {p a : Int} (hA : CI A) : CI (opAt A p a).2.1 := by
  unfold opAt
  repeat' split
  all_goals exact hA
theorem told_eq (hA : CI A) (kk : Int) : nthF (bt (A 0 0 8)) 60 0 kk = nthF (bt (A 0 0 8)) (A 0 0 5).toNat 0 kk := by
  have n1 := hA.1.1
  have h := nthF_cut (f := bt (A 0 0 8)) (A 0 0 5).toNat (60 - (A 0 0 5).toNat) 0 (c := kk) (fun q h1 h2 => by
    cases e : bt (A 0 0 8) q with
    | false => rfl
    | true => have := hA.2.2.2.2.1 q (by omega) (by omega) e; omega)
  rw [show (A 0 0 5).toNat + (60 - (A 0 0 5).toNat) = 60 from by omega] at h
  exact h
theorem opPut_v {p x y t : Int} : (opPut A p x y t).2.2 = 0 ∨ (opPut A p x y t).2.2 = 1 := by
  unfold opPut
  repeat' split
  all_goals first | exact Or.inl rfl | exact Or.inr rfl
theorem opInto_v {c p r : Int} : (opInto A c p r).2.2 = 0 ∨ (opInto A c p r).2.2 = 1 := by
  unfold opInto
  repeat' split
  all_goals first | exact Or.inl rfl | exact Or.inr rfl
theorem opHand_v {p x y : Int} : (opHand A p x y).2.2 = 0 ∨ (opHand A p x y).2.2 = 1 := by
  unfold opHand
  repeat' split
  all_goals first | exact Or.inl rfl | exact Or.inr rfl
theorem opMemb_v {r p : Int} : (opMemb A r p).2.2 = 0 ∨ (opMemb A r p).2.2 = 1 := by
  unfold opMemb
  repeat' split
  all_goals first | exact Or.inl rfl | exact Or.inr rfl
theorem opMirr_v {c : Int} : (opMirr A c).2.2 = 0 ∨ (opMirr A c).2.2 = 1 := by
  unfold opMirr
  repeat' split
  all_goals first | exact Or.inl rfl | exact Or.inr rfl
end OC
theorem lawPart {G : Gw} {S : Sg} {sz sl k : Nat} {Q : ZQ} {A : Sg} {i : Int} {o5 o6 o7 : Option AV} (hi : 0 ≤ i ∧ i + 9 ≤ (G.xl : Int)) (hx : G.xl ≤ 4608) (hA : CI A) (hL : Lk A S) (hR : RR A S) (hza : sz + 2 ≤ G.b0 + mm_mxC) (hla : sl + 12 ≤ mm_mxS) (hk : ∀ (A' S' : Sg) (sz' sl' : Nat) (o5 o6 o7 : Option AV), CI A' → Lk A' S' → RR A' S' → sz' ≤ sz + 1 → sl' ≤ sl + 6 → Ez G 124 1789 [some (aR 70 (0 : Int)), some (aR 0 (0 : Int)), some (aR 20 (0 : Int)), some (aR 51 (0 : Int)), some (aI i), o5, o6, o7] [] S' sz' sl' (k + 10) Q) : Ez G 124 120 [some (aR 70 (0 : Int)), some (aR 0 (0 : Int)), some (aR 20 (0 : Int)), some (aR 51 (0 : Int)), some (aI i), o5, o6, o7] [] S sz sl (k + 10) Q := by
  refine ez_rg (fun hg1 => ?_)
  refine ez_sg 6 (p := 0 ≤ (i + 1) ∧ (i + 1) < (G.xl : Int)) (pc' := 127) (ls' := [some (aR 70 (0 : Int)), some (aR 0 (0 : Int)), some (aR 20 (0 : Int)), some (aR 51 (0 : Int)), some (aI i), o5, o6, o7]) (st' := [aI (scV G (i + 1)), aR 0 (0 : Int)]) (S' := S) rfl (by omega) ?_
  refine ez_sg 6 (p := r32 (scV G (i + 1))) (pc' := 135) (ls' := [some (aR 70 (0 : Int)), some (aR 0 (0 : Int)), some (aR 20 (0 : Int)), some (aR 51 (0 : Int)), some (aI i), o5, o6, o7]) (st' := [aI (2 : Int), aI i, aR 70 (0 : Int), aL (lShl (scV G (i + 1)) (32 : Int)), aR 0 (0 : Int)]) (S' := S) rfl (r32_of _) ?_
  refine ez_sg 6 (p := (0 ≤ (i + 2) ∧ (i + 2) < (G.xl : Int)) ∧ (r32 (scV G (i + 2)))) (pc' := 143) (ls' := [some (aR 70 (0 : Int)), some (aR 0 (0 : Int)), some (aR 20 (0 : Int)), some (aR 51 (0 : Int)), some (aI i), o5, o6, o7]) (st' := [aL (lOr (lShl (scV G (i + 1)) (32 : Int)) (lAnd (scV G (i + 2)) (4294967295 : Int))), aR 0 (0 : Int)]) (S' := S) rfl ⟨(by omega), (r32_of _)⟩ ?_
  refine ez_sg 6 (p := (0 ≤ (i + 3) ∧ (i + 3) < (G.xl : Int)) ∧ (r32 (scV G (i + 3)))) (pc' := 150) (ls' := [some (aR 70 (0 : Int)), some (aR 0 (0 : Int)), some (aR 20 (0 : Int)), some (aR 51 (0 : Int)), some (aI i), o5, o6, o7]) (st' := [aL (scV G (i + 3)), aL (lOr (lShl (scV G (i + 1)) (32 : Int)) (lAnd (scV G (i + 2)) (4294967295 : Int))), aR 0 (0 : Int)]) (S' := S) rfl ⟨(by omega), (r32_of _)⟩ ?_
  refine ez_s0 6 (pc' := 158) (ls' := [some (aR 70 (0 : Int)), some (aR 0 (0 : Int)), some (aR 20 (0 : Int)), some (aR 51 (0 : Int)), some (aI i), o5, o6, o7]) (st' := [aI (i + 4), aR 70 (0 : Int), aL (lShl (scV G (i + 3)) (32 : Int)), aL (lOr (lShl (scV G (i + 1)) (32 : Int)) (lAnd (scV G (i + 2)) (4294967295 : Int))), aR 0 (0 : Int)]) (S' := S) rfl ?_
  refine ez_sg 6 (p := (0 ≤ (i + 4) ∧ (i + 4) < (G.xl : Int)) ∧ (r32 (scV G (i + 4)))) (pc' := 166) (ls' := [some (aR 70 (0 : Int)), some (aR 0 (0 : Int)), some (aR 20 (0 : Int)), some (aR 51 (0 : Int)), some (aI i), o5, o6, o7]) (st' := [aR 51 (0 : Int), aL (lOr (lShl (scV G (i + 3)) (32 : Int)) (lAnd (scV G (i + 4)) (4294967295 : Int))), aL (lOr (lShl (scV G (i + 1)) (32 : Int)) (lAnd (scV G (i + 2)) (4294967295 : Int))), aR 0 (0 : Int)]) (S' := S) rfl ⟨(by omega), (r32_of _)⟩ ?_
  refine ez_callZ rfl rfl [aR 0 (0 : Int), aL (lOr (lShl (scV G (i + 1)) (32 : Int)) (lAnd (scV G (i + 2)) (4294967295 : Int))), aL (lOr (lShl (scV G (i + 3)) (32 : Int)) (lAnd (scV G (i + 4)) (4294967295 : Int))), aR 51 (0 : Int)] [] rfl rfl (Nat.le_of_ble_eq_true rfl) (Nat.le_of_ble_eq_true rfl) (Nat.le_of_ble_eq_true rfl) ?_
  refine zPart (A := A) hL hA (by omega) (by omega) (w := (lOr (lShl (scV G (i + 1)) (32 : Int)) (lAnd (scV G (i + 2)) (4294967295 : Int)))) (hh := (lOr (lShl (scV G (i + 3)) (32 : Int)) (lAnd (scV G (i + 4)) (4294967295 : Int)))) (r64_of _) (r64_of _) (fun S1 sz1 sl1 j1 j2 j3 j4 j5 => ⟨_, rfl, ?_⟩)
  have hci : CI (opPart A (lOr (lShl (scV G (i + 1)) (32 : Int)) (lAnd (scV G (i + 2)) (4294967295 : Int))) (lOr (lShl (scV G (i + 3)) (32 : Int)) (lAnd (scV G (i + 4)) (4294967295 : Int)))).2.1 := opPart_ci hA
  generalize hop : opPart A (lOr (lShl (scV G (i + 1)) (32 : Int)) (lAnd (scV G (i + 2)) (4294967295 : Int))) (lOr (lShl (scV G (i + 3)) (32 : Int)) (lAnd (scV G (i + 4)) (4294967295 : Int))) = oo at j1 j3 hci ⊢
  have hz : sz1 + 1 ≤ G.b0 + mm_mxC := by omega
  have hl : sl1 + 6 ≤ mm_mxS := by omega
  show Ez G 124 169 [some (aR 70 (0 : Int)), some (aR 0 (0 : Int)), some (aR 20 (0 : Int)), some (aR 51 (0 : Int)), some (aI i), o5, o6, o7] [aI (oo.1)] S1 _ _ _ _
  refine ez_rg (fun hg2 => ?_)
  refine ez_s0 6 (pc' := 177) (ls' := [some (aR 70 (0 : Int)), some (aR 0 (0 : Int)), some (aR 20 (0 : Int)), some (aR 51 (0 : Int)), some (aI i), some (aI (oo.1)), o6, o7]) (st' := [aI (i + 1), aR 70 (0 : Int), aR 20 (0 : Int)]) (S' := S1) rfl ?_
  refine ez_sg 6 (p := (0 ≤ (i + 1) ∧ (i + 1) < (G.xl : Int)) ∧ (r32 (scV G (i + 1)))) (pc' := 185) (ls' := [some (aR 70 (0 : Int)), some (aR 0 (0 : Int)), some (aR 20 (0 : Int)), some (aR 51 (0 : Int)), some (aI i), some (aI (oo.1)), o6, o7]) (st' := [aI i, aR 70 (0 : Int), aL (lShl (scV G (i + 1)) (32 : Int)), aR 20 (0 : Int)]) (S' := S1) rfl ⟨(by omega), (r32_of _)⟩ ?_
  refine ez_sg 6 (p := (0 ≤ (i + 2) ∧ (i + 2) < (G.xl : Int)) ∧ (r32 (scV G (i + 2)))) (pc' := 193) (ls' := [some (aR 70 (0 : Int)), some (aR 0 (0 : Int)), some (aR 20 (0 : Int)), some (aR 51 (0 : Int)), some (aI i), some (aI (oo.1)), o6, o7]) (st' := [aL (lAnd (scV G (i + 2)) (4294967295 : Int)), aL (lShl (scV G (i + 1)) (32 : Int)), aR 20 (0 : Int)]) (S' := S1) rfl ⟨(by omega), (r32_of _)⟩ ?_
  refine ez_sg 6 (p := 0 ≤ (i + 3) ∧ (i + 3) < (G.xl : Int)) (pc' := 200) (ls' := [some (aR 70 (0 : Int)), some (aR 0 (0 : Int)), some (aR 20 (0 : Int)), some (aR 51 (0 : Int)), some (aI i), some (aI (oo.1)), o6, o7]) (st' := [aI (scV G (i + 3)), aL (lOr (lShl (scV G (i + 1)) (32 : Int)) (lAnd (scV G (i + 2)) (4294967295 : Int))), aR 20 (0 : Int)]) (S' := S1) rfl (by omega) ?_
  refine ez_sg 6 (p := r32 (scV G (i + 3))) (pc' := 208) (ls' := [some (aR 70 (0 : Int)), some (aR 0 (0 : Int)), some (aR 20 (0 : Int)), some (aR 51 (0 : Int)), some (aI i), some (aI (oo.1)), o6, o7]) (st' := [aI (4 : Int), aI i, aR 70 (0 : Int), aL (lShl (scV G (i + 3)) (32 : Int)), aL (lOr (lShl (scV G (i + 1)) (32 : Int)) (lAnd (scV G (i + 2)) (4294967295 : Int))), aR 20 (0 : Int)]) (S' := S1) rfl (r32_of _) ?_
  refine ez_sg 6 (p := (0 ≤ (i + 4) ∧ (i + 4) < (G.xl : Int)) ∧ (r32 (scV G (i + 4)))) (pc' := 216) (ls' := [some (aR 70 (0 : Int)), some (aR 0 (0 : Int)), some (aR 20 (0 : Int)), some (aR 51 (0 : Int)), some (aI i), some (aI (oo.1)), o6, o7]) (st' := [aL (lOr (lShl (scV G (i + 3)) (32 : Int)) (lAnd (scV G (i + 4)) (4294967295 : Int))), aL (lOr (lShl (scV G (i + 1)) (32 : Int)) (lAnd (scV G (i + 2)) (4294967295 : Int))), aR 20 (0 : Int)]) (S' := S1) rfl ⟨(by omega), (r32_of _)⟩ ?_
  refine ez_callV rfl rfl 20 (0 : Int) [aL (lOr (lShl (scV G (i + 1)) (32 : Int)) (lAnd (scV G (i + 2)) (4294967295 : Int))), aL (lOr (lShl (scV G (i + 3)) (32 : Int)) (lAnd (scV G (i + 4)) (4294967295 : Int)))] [] rfl rfl rfl rfl (Nat.le_of_ble_eq_true rfl) (Nat.le_of_ble_eq_true rfl) (Nat.le_of_ble_eq_true rfl) hz hl ?_
  refine qPart (S := S1) (A := A) hA (hR.fq j2) (w := (lOr (lShl (scV G (i + 1)) (32 : Int)) (lAnd (scV G (i + 2)) (4294967295 : Int)))) (hh := (lOr (lShl (scV G (i + 3)) (32 : Int)) (lAnd (scV G (i + 4)) (4294967295 : Int)))) (r64_of _) (r64_of _) (fun S2 r q1 q2 q3 q4 q5 => ?_)
  rw [hop] at q1 q3 q5
  have e51 : S2 51 0 0 = S1 51 0 0 := by rw [q2 51 (Or.inr rfl)]
  show Ez G 124 219 [some (aR 70 (0 : Int)), some (aR 0 (0 : Int)), some (aR 20 (0 : Int)), some (aR 51 (0 : Int)), some (aI i), some (aI (oo.1)), o6, o7] [aI r] S2 _ _ _ _
  refine ez_rg (fun hg3 => ?_)
  have hoc : r32 oo.1 := by
    rw [← q3]
    exact rgI hg3 (t := 20) (i := (0 : Int)) (q := (0 : Int)) (by omega : 0 ≤ (0 : Int) ∧ (0 : Int) < 1) (by omega) rfl
  refine ez_s0 2 (pc' := 222) (ls' := [some (aR 70 (0 : Int)), some (aR 0 (0 : Int)), some (aR 20 (0 : Int)), some (aR 51 (0 : Int)), some (aI i), some (aI (oo.1)), some (aI r), o7]) (st' := [aR 20 (0 : Int)]) (S' := S2) rfl ?_
  refine ez_callV rfl rfl 20 (0 : Int) [] [] rfl rfl rfl rfl (Nat.le_of_ble_eq_true rfl) (Nat.le_of_ble_eq_true rfl) (Nat.le_of_ble_eq_true rfl) hz hl ?_
  refine n15 (S := S2) ?_
  show Ez G 124 225 [some (aR 70 (0 : Int)), some (aR 0 (0 : Int)), some (aR 20 (0 : Int)), some (aR 51 (0 : Int)), some (aI i), some (aI (oo.1)), some (aI r), o7] [aI (S2 20 0 0)] S2 _ _ _ _
  refine ez_s0 1 (pc' := 227) (ls' := [some (aR 70 (0 : Int)), some (aR 0 (0 : Int)), some (aR 20 (0 : Int)), some (aR 51 (0 : Int)), some (aI i), some (aI (oo.1)), some (aI r), o7]) (st' := [aI (oo.1), aI (S2 20 0 0)]) (S' := S2) rfl ?_
  refine ez_icmp rfl 232 rfl (rgI hg3 (t := 20) (i := (0 : Int)) (q := (0 : Int)) (by omega : 0 ≤ (0 : Int) ∧ (0 : Int) < 1) (by omega) rfl) hoc (fun (g227 : (S2 20 0 0) = (oo.1)) => ?_) (fun (g227 : ¬ ((S2 20 0 0) = (oo.1))) => ?_)
  · refine ez_s0 1 (pc' := 234) (ls' := [some (aR 70 (0 : Int)), some (aR 0 (0 : Int)), some (aR 20 (0 : Int)), some (aR 51 (0 : Int)), some (aI i), some (aI (oo.1)), some (aI r), o7]) (st' := [aI (oo.1)]) (S' := S2) rfl ?_
    refine ez_if rfl 249 rfl hoc (fun (g234 : ¬ (oo.1) = (0 : Int)) => ?_) (fun (g234 : ¬ (¬ (oo.1) = (0 : Int))) => ?_)
    · refine ez_s0 1 (pc' := 1789) (ls' := [some (aR 70 (0 : Int)), some (aR 0 (0 : Int)), some (aR 20 (0 : Int)), some (aR 51 (0 : Int)), some (aI i), some (aI (oo.1)), some (aI r), o7]) (st' := []) (S' := S2) rfl ?_
      exact hk oo.2.1 S2 sz1 sl1 _ _ _ hci (j1.fd q2) q1 (by omega) (by omega)
    · refine ez_sg 5 (p := (((0 : Int) = 0) ∧ (0 ≤ (0 : Int) ∧ (0 : Int) < 1)) ∧ (r32 r)) (pc' := 243) (ls' := [some (aR 70 (0 : Int)), some (aR 0 (0 : Int)), some (aR 20 (0 : Int)), some (aR 51 (0 : Int)), some (aI i), some (aI (oo.1)), some (aI r), o7]) (st' := [aL r, aL (S2 51 0 0)]) (S' := S2) rfl ⟨⟨rfl, (by omega)⟩, ⟨by have := q4.1; omega, by have := q4.2; omega⟩⟩ ?_
      refine ez_lif rfl rfl 249 rfl (rgL hg3 (t := 51) (i := (0 : Int)) (q := (0 : Int)) (by omega : 0 ≤ (0 : Int) ∧ (0 : Int) < 1) (by omega) rfl) ⟨by have := q4.1; omega, by have := q4.2; omega⟩ (fun (g243 : (S2 51 0 0) = r) => ?_) (fun (g243 : ¬ ((S2 51 0 0) = r)) => ?_)
      · refine ez_s0 1 (pc' := 1789) (ls' := [some (aR 70 (0 : Int)), some (aR 0 (0 : Int)), some (aR 20 (0 : Int)), some (aR 51 (0 : Int)), some (aI i), some (aI (oo.1)), some (aI r), o7]) (st' := []) (S' := S2) rfl ?_
        exact hk oo.2.1 S2 sz1 sl1 _ _ _ hci (j1.fd q2) q1 (by omega) (by omega)
      · refine ez_s0 1 (pc' := 248) (ls' := [some (aR 70 (0 : Int)), some (aR 0 (0 : Int)), some (aR 20 (0 : Int)), some (aR 51 (0 : Int)), some (aI i), some (aI (oo.1)), some (aI r), o7]) (st' := [aI (0 : Int)]) (S' := S2) rfl ?_
        refine ez_iret rfl rfl rfl (Or.inr ⟨rfl, (by decide)⟩) ?_
        exfalso; omega
  · refine ez_s0 1 (pc' := 231) (ls' := [some (aR 70 (0 : Int)), some (aR 0 (0 : Int)), some (aR 20 (0 : Int)), some (aR 51 (0 : Int)), some (aI i), some (aI (oo.1)), some (aI r), o7]) (st' := [aI (0 : Int)]) (S' := S2) rfl ?_
    refine ez_iret rfl rfl rfl (Or.inr ⟨rfl, (by decide)⟩) ?_
    exfalso; omega
theorem lawPut {G : Gw} {S : Sg} {sz sl k : Nat} {Q : ZQ} {A : Sg} {i : Int} {o5 o6 o7 : Option AV} (hi : 0 ≤ i ∧ i + 9 ≤ (G.xl : Int)) (hx : G.xl ≤ 4608) (hA : CI A) (hL : Lk A S) (hR : RR A S) (hza : sz + 2 ≤ G.b0 + mm_mxC) (hla : sl + 12 ≤ mm_mxS) (hk : ∀ (A' S' : Sg) (sz' sl' : Nat) (o5 o6 o7 : Option AV), CI A' → Lk A' S' → RR A' S' → sz' ≤ sz + 1 → sl' ≤ sl + 6 → Ez G 124 1789 [some (aR 70 (0 : Int)), some (aR 0 (0 : Int)), some (aR 20 (0 : Int)), some (aR 51 (0 : Int)), some (aI i), o5, o6, o7] [] S' sz' sl' (k + 10) Q) : Ez G 124 252 [some (aR 70 (0 : Int)), some (aR 0 (0 : Int)), some (aR 20 (0 : Int)), some (aR 51 (0 : Int)), some (aI i), o5, o6, o7] [] S sz sl (k + 10) Q := by
  refine ez_rg (fun hg1 => ?_)
  refine ez_sg 6 (p := 0 ≤ (i + 1) ∧ (i + 1) < (G.xl : Int)) (pc' := 259) (ls' := [some (aR 70 (0 : Int)), some (aR 0 (0 : Int)), some (aR 20 (0 : Int)), some (aR 51 (0 : Int)), some (aI i), o5, o6, o7]) (st' := [aI (scV G (i + 1)), aR 0 (0 : Int)]) (S' := S) rfl (by omega) ?_
  refine ez_sg 6 (p := (0 ≤ (i + 2) ∧ (i + 2) < (G.xl : Int)) ∧ (r32 (scV G (i + 2)))) (pc' := 266) (ls' := [some (aR 70 (0 : Int)), some (aR 0 (0 : Int)), some (aR 20 (0 : Int)), some (aR 51 (0 : Int)), some (aI i), o5, o6, o7]) (st' := [aL (scV G (i + 2)), aI (scV G (i + 1)), aR 0 (0 : Int)]) (S' := S) rfl ⟨(by omega), (r32_of _)⟩ ?_
  refine ez_s0 6 (pc' := 274) (ls' := [some (aR 70 (0 : Int)), some (aR 0 (0 : Int)), some (aR 20 (0 : Int)), some (aR 51 (0 : Int)), some (aI i), o5, o6, o7]) (st' := [aI (i + 3), aR 70 (0 : Int), aL (lShl (scV G (i + 2)) (32 : Int)), aI (scV G (i + 1)), aR 0 (0 : Int)]) (S' := S) rfl ?_
  refine ez_sg 6 (p := (0 ≤ (i + 3) ∧ (i + 3) < (G.xl : Int)) ∧ (r32 (scV G (i + 3)))) (pc' := 282) (ls' := [some (aR 70 (0 : Int)), some (aR 0 (0 : Int)), some (aR 20 (0 : Int)), some (aR 51 (0 : Int)), some (aI i), o5, o6, o7]) (st' := [aR 70 (0 : Int), aL (lOr (lShl (scV G (i + 2)) (32 : Int)) (lAnd (scV G (i + 3)) (4294967295 : Int))), aI (scV G (i + 1)), aR 0 (0 : Int)]) (S' := S) rfl ⟨(by omega), (r32_of _)⟩ ?_
  refine ez_sg 6 (p := (0 ≤ (i + 4) ∧ (i + 4) < (G.xl : Int)) ∧ (r32 (scV G (i + 4)))) (pc' := 290) (ls' := [some (aR 70 (0 : Int)), some (aR 0 (0 : Int)), some (aR 20 (0 : Int)), some (aR 51 (0 : Int)), some (aI i), o5, o6, o7]) (st' := [aI (32 : Int), aL (scV G (i + 4)), aL (lOr (lShl (scV G (i + 2)) (32 : Int)) (lAnd (scV G (i + 3)) (4294967295 : Int))), aI (scV G (i + 1)), aR 0 (0 : Int)]) (S' := S) rfl ⟨(by omega), (r32_of _)⟩ ?_
  refine ez_sg 6 (p := 0 ≤ (i + 5) ∧ (i + 5) < (G.xl : Int)) (pc' := 297) (ls' := [some (aR 70 (0 : Int)), some (aR 0 (0 : Int)), some (aR 20 (0 : Int)), some (aR 51 (0 : Int)), some (aI i), o5, o6, o7]) (st' := [aI (scV G (i + 5)), aL (lShl (scV G (i + 4)) (32 : Int)), aL (lOr (lShl (scV G (i + 2)) (32 : Int)) (lAnd (scV G (i + 3)) (4294967295 : Int))), aI (scV G (i + 1)), aR 0 (0 : Int)]) (S' := S) rfl (by omega) ?_
  refine ez_sg 6 (p := r32 (scV G (i + 5))) (pc' := 306) (ls' := [some (aR 70 (0 : Int)), some (aR 0 (0 : Int)), some (aR 20 (0 : Int)), some (aR 51 (0 : Int)), some (aI i), o5, o6, o7]) (st' := [aI i, aR 70 (0 : Int), aL (lOr (lShl (scV G (i + 4)) (32 : Int)) (lAnd (scV G (i + 5)) (4294967295 : Int))), aL (lOr (lShl (scV G (i + 2)) (32 : Int)) (lAnd (scV G (i + 3)) (4294967295 : Int))), aI (scV G (i + 1)), aR 0 (0 : Int)]) (S' := S) rfl (r32_of _) ?_
  refine ez_sg 4 (p := 0 ≤ (i + 6) ∧ (i + 6) < (G.xl : Int)) (pc' := 311) (ls' := [some (aR 70 (0 : Int)), some (aR 0 (0 : Int)), some (aR 20 (0 : Int)), some (aR 51 (0 : Int)), some (aI i), o5, o6, o7]) (st' := [aR 51 (0 : Int), aI (scV G (i + 6)), aL (lOr (lShl (scV G (i + 4)) (32 : Int)) (lAnd (scV G (i + 5)) (4294967295 : Int))), aL (lOr (lShl (scV G (i + 2)) (32 : Int)) (lAnd (scV G (i + 3)) (4294967295 : Int))), aI (scV G (i + 1)), aR 0 (0 : Int)]) (S' := S) rfl (by omega) ?_
  refine ez_callZ rfl rfl [aR 0 (0 : Int), aI (scV G (i + 1)), aL (lOr (lShl (scV G (i + 2)) (32 : Int)) (lAnd (scV G (i + 3)) (4294967295 : Int))), aL (lOr (lShl (scV G (i + 4)) (32 : Int)) (lAnd (scV G (i + 5)) (4294967295 : Int))), aI (scV G (i + 6)), aR 51 (0 : Int)] [] rfl rfl (Nat.le_of_ble_eq_true rfl) (Nat.le_of_ble_eq_true rfl) (Nat.le_of_ble_eq_true rfl) ?_
  refine zPut (A := A) hL hA (by omega) (by omega) (p := (scV G (i + 1))) (x := (lOr (lShl (scV G (i + 2)) (32 : Int)) (lAnd (scV G (i + 3)) (4294967295 : Int)))) (y := (lOr (lShl (scV G (i + 4)) (32 : Int)) (lAnd (scV G (i + 5)) (4294967295 : Int)))) (t := (scV G (i + 6))) (r32_of _) (r64_of _) (r64_of _) (r32_of _) (fun S1 sz1 sl1 j1 j2 j3 j4 j5 => ⟨_, rfl, ?_⟩)
  have hci : CI (opPut A (scV G (i + 1)) (lOr (lShl (scV G (i + 2)) (32 : Int)) (lAnd (scV G (i + 3)) (4294967295 : Int))) (lOr (lShl (scV G (i + 4)) (32 : Int)) (lAnd (scV G (i + 5)) (4294967295 : Int))) (scV G (i + 6))).2.1 := opPut_ci hA
  have hbv := opPut_v (A := A) (p := (scV G (i + 1))) (x := (lOr (lShl (scV G (i + 2)) (32 : Int)) (lAnd (scV G (i + 3)) (4294967295 : Int)))) (y := (lOr (lShl (scV G (i + 4)) (32 : Int)) (lAnd (scV G (i + 5)) (4294967295 : Int)))) (t := (scV G (i + 6)))
  generalize hop : opPut A (scV G (i + 1)) (lOr (lShl (scV G (i + 2)) (32 : Int)) (lAnd (scV G (i + 3)) (4294967295 : Int))) (lOr (lShl (scV G (i + 4)) (32 : Int)) (lAnd (scV G (i + 5)) (4294967295 : Int))) (scV G (i + 6)) = oo at j1 j3 hci hbv ⊢
  have hz : sz1 + 1 ≤ G.b0 + mm_mxC := by omega
  have hl : sl1 + 6 ≤ mm_mxS := by omega
  show Ez G 124 314 [some (aR 70 (0 : Int)), some (aR 0 (0 : Int)), some (aR 20 (0 : Int)), some (aR 51 (0 : Int)), some (aI i), o5, o6, o7] [aI (oo.1)] S1 _ _ _ _
  refine ez_rg (fun hg2 => ?_)
  refine ez_s0 6 (pc' := 322) (ls' := [some (aR 70 (0 : Int)), some (aR 0 (0 : Int)), some (aR 20 (0 : Int)), some (aR 51 (0 : Int)), some (aI i), some (aI (oo.1)), o6, o7]) (st' := [aI (i + 1), aR 70 (0 : Int), aR 20 (0 : Int)]) (S' := S1) rfl ?_
  refine ez_sg 6 (p := (0 ≤ (i + 1) ∧ (i + 1) < (G.xl : Int)) ∧ (0 ≤ (i + 2) ∧ (i + 2) < (G.xl : Int))) (pc' := 329) (ls' := [some (aR 70 (0 : Int)), some (aR 0 (0 : Int)), some (aR 20 (0 : Int)), some (aR 51 (0 : Int)), some (aI i), some (aI (oo.1)), o6, o7]) (st' := [aI (scV G (i + 2)), aI (scV G (i + 1)), aR 20 (0 : Int)]) (S' := S1) rfl ⟨(by omega), (by omega)⟩ ?_
  refine ez_sg 6 (p := r32 (scV G (i + 2))) (pc' := 337) (ls' := [some (aR 70 (0 : Int)), some (aR 0 (0 : Int)), some (aR 20 (0 : Int)), some (aR 51 (0 : Int)), some (aI i), some (aI (oo.1)), o6, o7]) (st' := [aI (3 : Int), aI i, aR 70 (0 : Int), aL (lShl (scV G (i + 2)) (32 : Int)), aI (scV G (i + 1)), aR 20 (0 : Int)]) (S' := S1) rfl (r32_of _) ?_
  refine ez_sg 6 (p := (0 ≤ (i + 3) ∧ (i + 3) < (G.xl : Int)) ∧ (r32 (scV G (i + 3)))) (pc' := 345) (ls' := [some (aR 70 (0 : Int)), some (aR 0 (0 : Int)), some (aR 20 (0 : Int)), some (aR 51 (0 : Int)), some (aI i), some (aI (oo.1)), o6, o7]) (st' := [aL (lOr (lShl (scV G (i + 2)) (32 : Int)) (lAnd (scV G (i + 3)) (4294967295 : Int))), aI (scV G (i + 1)), aR 20 (0 : Int)]) (S' := S1) rfl ⟨(by omega), (r32_of _)⟩ ?_
  refine ez_sg 6 (p := (0 ≤ (i + 4) ∧ (i + 4) < (G.xl : Int)) ∧ (r32 (scV G (i + 4)))) (pc' := 352) (ls' := [some (aR 70 (0 : Int)), some (aR 0 (0 : Int)), some (aR 20 (0 : Int)), some (aR 51 (0 : Int)), some (aI i), some (aI (oo.1)), o6, o7]) (st' := [aL (scV G (i + 4)), aL (lOr (lShl (scV G (i + 2)) (32 : Int)) (lAnd (scV G (i + 3)) (4294967295 : Int))), aI (scV G (i + 1)), aR 20 (0 : Int)]) (S' := S1) rfl ⟨(by omega), (r32_of _)⟩ ?_
  refine ez_s0 6 (pc' := 360) (ls' := [some (aR 70 (0 : Int)), some (aR 0 (0 : Int)), some (aR 20 (0 : Int)), some (aR 51 (0 : Int)), some (aI i), some (aI (oo.1)), o6, o7]) (st' := [aI (i + 5), aR 70 (0 : Int), aL (lShl (scV G (i + 4)) (32 : Int)), aL (lOr (lShl (scV G (i + 2)) (32 : Int)) (lAnd (scV G (i + 3)) (4294967295 : Int))), aI (scV G (i + 1)), aR 20 (0 : Int)]) (S' := S1) rfl ?_
  refine ez_sg 6 (p := (0 ≤ (i + 5) ∧ (i + 5) < (G.xl : Int)) ∧ (r32 (scV G (i + 5)))) (pc' := 368) (ls' := [some (aR 70 (0 : Int)), some (aR 0 (0 : Int)), some (aR 20 (0 : Int)), some (aR 51 (0 : Int)), some (aI i), some (aI (oo.1)), o6, o7]) (st' := [aR 70 (0 : Int), aL (lOr (lShl (scV G (i + 4)) (32 : Int)) (lAnd (scV G (i + 5)) (4294967295 : Int))), aL (lOr (lShl (scV G (i + 2)) (32 : Int)) (lAnd (scV G (i + 3)) (4294967295 : Int))), aI (scV G (i + 1)), aR 20 (0 : Int)]) (S' := S1) rfl ⟨(by omega), (r32_of _)⟩ ?_
  refine ez_sg 4 (p := 0 ≤ (i + 6) ∧ (i + 6) < (G.xl : Int)) (pc' := 374) (ls' := [some (aR 70 (0 : Int)), some (aR 0 (0 : Int)), some (aR 20 (0 : Int)), some (aR 51 (0 : Int)), some (aI i), some (aI (oo.1)), o6, o7]) (st' := [aI (scV G (i + 6)), aL (lOr (lShl (scV G (i + 4)) (32 : Int)) (lAnd (scV G (i + 5)) (4294967295 : Int))), aL (lOr (lShl (scV G (i + 2)) (32 : Int)) (lAnd (scV G (i + 3)) (4294967295 : Int))), aI (scV G (i + 1)), aR 20 (0 : Int)]) (S' := S1) rfl (by omega) ?_
  refine ez_callV rfl rfl 20 (0 : Int) [aI (scV G (i + 1)), aL (lOr (lShl (scV G (i + 2)) (32 : Int)) (lAnd (scV G (i + 3)) (4294967295 : Int))), aL (lOr (lShl (scV G (i + 4)) (32 : Int)) (lAnd (scV G (i + 5)) (4294967295 : Int))), aI (scV G (i + 6))] [] rfl rfl rfl rfl (Nat.le_of_ble_eq_true rfl) (Nat.le_of_ble_eq_true rfl) (Nat.le_of_ble_eq_true rfl) hz hl ?_
  refine qPut (S := S1) (A := A) hA (hR.fq j2) (p := (scV G (i + 1))) (x := (lOr (lShl (scV G (i + 2)) (32 : Int)) (lAnd (scV G (i + 3)) (4294967295 : Int)))) (y := (lOr (lShl (scV G (i + 4)) (32 : Int)) (lAnd (scV G (i + 5)) (4294967295 : Int)))) (t := (scV G (i + 6))) (r32_of _) (r64_of _) (r64_of _) (r32_of _) (fun S2 r q1 q2 q3 q4 q5 => ?_)
  rw [hop] at q1 q3 q5
  have e51 : S2 51 0 0 = S1 51 0 0 := by rw [q2 51 (Or.inr rfl)]
  show Ez G 124 377 [some (aR 70 (0 : Int)), some (aR 0 (0 : Int)), some (aR 20 (0 : Int)), some (aR 51 (0 : Int)), some (aI i), some (aI (oo.1)), o6, o7] [aI r] S2 _ _ _ _
  refine ez_rg (fun hg3 => ?_)
  have hoc : r32 oo.1 := by
    rw [← q3]
    exact rgI hg3 (t := 20) (i := (0 : Int)) (q := (0 : Int)) (by omega : 0 ≤ (0 : Int) ∧ (0 : Int) < 1) (by omega) rfl
  refine ez_s0 2 (pc' := 380) (ls' := [some (aR 70 (0 : Int)), some (aR 0 (0 : Int)), some (aR 20 (0 : Int)), some (aR 51 (0 : Int)), some (aI i), some (aI (oo.1)), some (aI r), o7]) (st' := [aR 20 (0 : Int)]) (S' := S2) rfl ?_
  refine ez_callV rfl rfl 20 (0 : Int) [] [] rfl rfl rfl rfl (Nat.le_of_ble_eq_true rfl) (Nat.le_of_ble_eq_true rfl) (Nat.le_of_ble_eq_true rfl) hz hl ?_
  refine n15 (S := S2) ?_
  show Ez G 124 383 [some (aR 70 (0 : Int)), some (aR 0 (0 : Int)), some (aR 20 (0 : Int)), some (aR 51 (0 : Int)), some (aI i), some (aI (oo.1)), some (aI r), o7] [aI (S2 20 0 0)] S2 _ _ _ _
  refine ez_s0 1 (pc' := 385) (ls' := [some (aR 70 (0 : Int)), some (aR 0 (0 : Int)), some (aR 20 (0 : Int)), some (aR 51 (0 : Int)), some (aI i), some (aI (oo.1)), some (aI r), o7]) (st' := [aI (oo.1), aI (S2 20 0 0)]) (S' := S2) rfl ?_
  refine ez_icmp rfl 390 rfl (rgI hg3 (t := 20) (i := (0 : Int)) (q := (0 : Int)) (by omega : 0 ≤ (0 : Int) ∧ (0 : Int) < 1) (by omega) rfl) hoc (fun (g385 : (S2 20 0 0) = (oo.1)) => ?_) (fun (g385 : ¬ ((S2 20 0 0) = (oo.1))) => ?_)
  · refine ez_s0 1 (pc' := 392) (ls' := [some (aR 70 (0 : Int)), some (aR 0 (0 : Int)), some (aR 20 (0 : Int)), some (aR 51 (0 : Int)), some (aI i), some (aI (oo.1)), some (aI r), o7]) (st' := [aI (oo.1)]) (S' := S2) rfl ?_
    refine ez_if rfl 414 rfl hoc (fun (g392 : ¬ (oo.1) = (0 : Int)) => ?_) (fun (g392 : ¬ (¬ (oo.1) = (0 : Int))) => ?_)
    · refine ez_s0 1 (pc' := 1789) (ls' := [some (aR 70 (0 : Int)), some (aR 0 (0 : Int)), some (aR 20 (0 : Int)), some (aR 51 (0 : Int)), some (aI i), some (aI (oo.1)), some (aI r), o7]) (st' := []) (S' := S2) rfl ?_
      exact hk oo.2.1 S2 sz1 sl1 _ _ _ hci (j1.fd q2) q1 (by omega) (by omega)
    · refine ez_sg 4 (p := ((0 : Int) = 0) ∧ (0 ≤ (0 : Int) ∧ (0 : Int) < 1)) (pc' := 400) (ls' := [some (aR 70 (0 : Int)), some (aR 0 (0 : Int)), some (aR 20 (0 : Int)), some (aR 51 (0 : Int)), some (aI i), some (aI (oo.1)), some (aI r), o7]) (st' := [aI r, aL (S2 51 0 0)]) (S' := S2) rfl ⟨rfl, (by omega)⟩ ?_
      refine ez_if rfl 407 rfl ⟨by have := q4.1; omega, by have := q4.2; omega⟩ (fun (g400 : r = (0 : Int)) => ?_) (fun (g400 : ¬ (r = (0 : Int))) => ?_)
      · refine ez_s0 1 (pc' := 408) (ls' := [some (aR 70 (0 : Int)), some (aR 0 (0 : Int)), some (aR 20 (0 : Int)), some (aR 51 (0 : Int)), some (aI i), some (aI (oo.1)), some (aI r), o7]) (st' := [aL (0 : Int), aL (S2 51 0 0)]) (S' := S2) rfl ?_
        refine ez_lif rfl rfl 414 rfl (rgL hg3 (t := 51) (i := (0 : Int)) (q := (0 : Int)) (by omega : 0 ≤ (0 : Int) ∧ (0 : Int) < 1) (by omega) rfl) ⟨by decide, by decide⟩ (fun (g408 : (S2 51 0 0) = (0 : Int)) => ?_) (fun (g408 : ¬ ((S2 51 0 0) = (0 : Int))) => ?_)
        · refine ez_s0 1 (pc' := 1789) (ls' := [some (aR 70 (0 : Int)), some (aR 0 (0 : Int)), some (aR 20 (0 : Int)), some (aR 51 (0 : Int)), some (aI i), some (aI (oo.1)), some (aI r), o7]) (st' := []) (S' := S2) rfl ?_
          exact hk oo.2.1 S2 sz1 sl1 _ _ _ hci (j1.fd q2) q1 (by omega) (by omega)
        · refine ez_s0 1 (pc' := 413) (ls' := [some (aR 70 (0 : Int)), some (aR 0 (0 : Int)), some (aR 20 (0 : Int)), some (aR 51 (0 : Int)), some (aI i), some (aI (oo.1)), some (aI r), o7]) (st' := [aI (0 : Int)]) (S' := S2) rfl ?_
          refine ez_iret rfl rfl rfl (Or.inr ⟨rfl, (by decide)⟩) ?_
          exfalso; omega
      · refine ez_s0 2 (pc' := 408) (ls' := [some (aR 70 (0 : Int)), some (aR 0 (0 : Int)), some (aR 20 (0 : Int)), some (aR 51 (0 : Int)), some (aI i), some (aI (oo.1)), some (aI r), o7]) (st' := [aL (1 : Int), aL (S2 51 0 0)]) (S' := S2) rfl ?_
        refine ez_lif rfl rfl 414 rfl (rgL hg3 (t := 51) (i := (0 : Int)) (q := (0 : Int)) (by omega : 0 ≤ (0 : Int) ∧ (0 : Int) < 1) (by omega) rfl) ⟨by decide, by decide⟩ (fun (g408 : (S2 51 0 0) = (1 : Int)) => ?_) (fun (g408 : ¬ ((S2 51 0 0) = (1 : Int))) => ?_)
        · refine ez_s0 1 (pc' := 1789) (ls' := [some (aR 70 (0 : Int)), some (aR 0 (0 : Int)), some (aR 20 (0 : Int)), some (aR 51 (0 : Int)), some (aI i), some (aI (oo.1)), some (aI r), o7]) (st' := []) (S' := S2) rfl ?_
          exact hk oo.2.1 S2 sz1 sl1 _ _ _ hci (j1.fd q2) q1 (by omega) (by omega)
        · refine ez_s0 1 (pc' := 413) (ls' := [some (aR 70 (0 : Int)), some (aR 0 (0 : Int)), some (aR 20 (0 : Int)), some (aR 51 (0 : Int)), some (aI i), some (aI (oo.1)), some (aI r), o7]) (st' := [aI (0 : Int)]) (S' := S2) rfl ?_
          refine ez_iret rfl rfl rfl (Or.inr ⟨rfl, (by decide)⟩) ?_
          exfalso; omega
  · refine ez_s0 1 (pc' := 389) (ls' := [some (aR 70 (0 : Int)), some (aR 0 (0 : Int)), some (aR 20 (0 : Int)), some (aR 51 (0 : Int)), some (aI i), some (aI (oo.1)), some (aI r), o7]) (st' := [aI (0 : Int)]) (S' := S2) rfl ?_
    refine ez_iret rfl rfl rfl (Or.inr ⟨rfl, (by decide)⟩) ?_
    exfalso; omega
theorem lawChan {G : Gw} {S : Sg} {sz sl k : Nat} {Q : ZQ} {A : Sg} {i : Int} {o5 o6 o7 : Option AV} (hi : 0 ≤ i ∧ i + 9 ≤ (G.xl : Int)) (hx : G.xl ≤ 4608) (hA : CI A) (hL : Lk A S) (hR : RR A S) (hza : sz + 2 ≤ G.b0 + mm_mxC) (hla : sl + 12 ≤ mm_mxS) (hk : ∀ (A' S' : Sg) (sz' sl' : Nat) (o5 o6 o7 : Option AV), CI A' → Lk A' S' → RR A' S' → sz' ≤ sz + 1 → sl' ≤ sl + 6 → Ez G 124 1789 [some (aR 70 (0 : Int)), some (aR 0 (0 : Int)), some (aR 20 (0 : Int)), some (aR 51 (0 : Int)), some (aI i), o5, o6, o7] [] S' sz' sl' (k + 10) Q) : Ez G 124 417 [some (aR 70 (0 : Int)), some (aR 0 (0 : Int)), some (aR 20 (0 : Int)), some (aR 51 (0 : Int)), some (aI i), o5, o6, o7] [] S sz sl (k + 10) Q := by
  have hz : sz + 1 ≤ G.b0 + mm_mxC := by omega
  have hl : sl + 6 ≤ mm_mxS := by omega
  have hS := hA.lk hL
  have hnc := hS.1.2.1
  have e06 : S 0 0 6 = A 0 0 6 := by rw [hL 0 (by decide)]
  have hci : CI (opChan A).2.1 := opChan_ci hA
  refine ez_rg (fun hg1 => ?_)
  refine ez_s0 1 (pc' := 418) (ls' := [some (aR 70 (0 : Int)), some (aR 0 (0 : Int)), some (aR 20 (0 : Int)), some (aR 51 (0 : Int)), some (aI i), o5, o6, o7]) (st' := [aR 0 (0 : Int)]) (S' := S) rfl ?_
  refine ez_callV rfl rfl 0 (0 : Int) [] [] rfl rfl rfl rfl (Nat.le_of_ble_eq_true rfl) (Nat.le_of_ble_eq_true rfl) (Nat.le_of_ble_eq_true rfl) hz hl ?_
  refine m30 (S := S) hnc (fun hc => ?_) (fun hc => ?_)
  · have hop : opChan A = (0, A, -1) := by
      unfold opChan
      rw [if_pos (by omega)]
    rw [hop] at hci
    have hLk : Lk A S := hL
    have hF2 : Fq S S := Fq.rf S
    show Ez G 124 421 [some (aR 70 (0 : Int)), some (aR 0 (0 : Int)), some (aR 20 (0 : Int)), some (aR 51 (0 : Int)), some (aI i), o5, o6, o7] [aI (-1 : Int)] S _ _ _ _
    refine ez_s0 1 (pc' := 422) (ls' := [some (aR 70 (0 : Int)), some (aR 0 (0 : Int)), some (aR 20 (0 : Int)), some (aR 51 (0 : Int)), some (aI i), o5, o6, o7]) (st' := [aR 20 (0 : Int), aI (-1 : Int)]) (S' := S) rfl ?_
    refine ez_callV rfl rfl 20 (0 : Int) [] [aI (-1 : Int)] rfl rfl rfl rfl (Nat.le_of_ble_eq_true rfl) (Nat.le_of_ble_eq_true rfl) (Nat.le_of_ble_eq_true rfl) hz hl ?_
    refine qChan (S := S) (A := A) hA (hR.fq hF2) (fun S2 r q1 q2 q3 q4 q5 => ?_)
    rw [hop] at q1 q3 q5
    have q6 := q5 rfl
    dsimp only at q6
    show Ez G 124 425 [some (aR 70 (0 : Int)), some (aR 0 (0 : Int)), some (aR 20 (0 : Int)), some (aR 51 (0 : Int)), some (aI i), o5, o6, o7] [aI r, aI (-1 : Int)] S2 _ _ _ _
    refine ez_rg (fun hg2 => ?_)
    refine ez_icmp rfl 1789 rfl ⟨by decide, by decide⟩ ⟨by have := q4.1; omega, by have := q4.2; omega⟩ (fun (g425 : (-1 : Int) = r) => ?_) (fun (g425 : ¬ ((-1 : Int) = r)) => ?_)
    · exact hk _ S2 sz sl _ _ _ hci (hLk.fd q2) q1 (by omega) (by omega)
    · refine ez_s0 1 (pc' := 429) (ls' := [some (aR 70 (0 : Int)), some (aR 0 (0 : Int)), some (aR 20 (0 : Int)), some (aR 51 (0 : Int)), some (aI i), o5, o6, o7]) (st' := [aI (0 : Int)]) (S' := S2) rfl ?_
      refine ez_iret rfl rfl rfl (Or.inr ⟨rfl, (by decide)⟩) ?_
      exfalso; omega
  · have hop : opChan A = (0, su A 0 0 6 (A 0 0 6 + 1), A 0 0 6) := by
      unfold opChan
      rw [if_neg (by omega)]
    rw [hop] at hci
    have hLk : Lk (su A 0 0 6 (A 0 0 6 + 1)) (su S 0 0 6 (S 0 0 6 + 1)) := by rw [e06]; exact su_lk' hL
    have hF2 : Fq S (su S 0 0 6 (S 0 0 6 + 1)) := fun t a b => su_tt _ (by omega)
    show Ez G 124 421 [some (aR 70 (0 : Int)), some (aR 0 (0 : Int)), some (aR 20 (0 : Int)), some (aR 51 (0 : Int)), some (aI i), o5, o6, o7] [aI (S 0 0 6)] (su S 0 0 6 (S 0 0 6 + 1)) _ _ _ _
    refine ez_rg (fun hg3 => ?_)
    refine ez_s0 1 (pc' := 422) (ls' := [some (aR 70 (0 : Int)), some (aR 0 (0 : Int)), some (aR 20 (0 : Int)), some (aR 51 (0 : Int)), some (aI i), o5, o6, o7]) (st' := [aR 20 (0 : Int), aI (S 0 0 6)]) (S' := su S 0 0 6 (S 0 0 6 + 1)) rfl ?_
    refine ez_callV rfl rfl 20 (0 : Int) [] [aI (S 0 0 6)] rfl rfl rfl rfl (Nat.le_of_ble_eq_true rfl) (Nat.le_of_ble_eq_true rfl) (Nat.le_of_ble_eq_true rfl) hz hl ?_
    refine qChan (S := su S 0 0 6 (S 0 0 6 + 1)) (A := A) hA (hR.fq hF2) (fun S2 r q1 q2 q3 q4 q5 => ?_)
    rw [hop] at q1 q3 q5
    have q6 := q5 rfl
    dsimp only at q6
    show Ez G 124 425 [some (aR 70 (0 : Int)), some (aR 0 (0 : Int)), some (aR 20 (0 : Int)), some (aR 51 (0 : Int)), some (aI i), o5, o6, o7] [aI r, aI (S 0 0 6)] S2 _ _ _ _
    refine ez_rg (fun hg4 => ?_)
    refine ez_icmp rfl 1789 rfl (rgI hg1 (t := 0) (i := (0 : Int)) (q := (6 : Int)) (by omega : 0 ≤ (0 : Int) ∧ (0 : Int) < 1) (by omega) rfl) ⟨by have := q4.1; omega, by have := q4.2; omega⟩ (fun (g425 : (S 0 0 6) = r) => ?_) (fun (g425 : ¬ ((S 0 0 6) = r)) => ?_)
    · exact hk _ S2 sz sl _ _ _ hci (hLk.fd q2) q1 (by omega) (by omega)
    · refine ez_s0 1 (pc' := 429) (ls' := [some (aR 70 (0 : Int)), some (aR 0 (0 : Int)), some (aR 20 (0 : Int)), some (aR 51 (0 : Int)), some (aI i), o5, o6, o7]) (st' := [aI (0 : Int)]) (S' := S2) rfl ?_
      refine ez_iret rfl rfl rfl (Or.inr ⟨rfl, (by decide)⟩) ?_
      exfalso; omega
theorem lawInto {G : Gw} {S : Sg} {sz sl k : Nat} {Q : ZQ} {A : Sg} {i : Int} {o5 o6 o7 : Option AV} (hi : 0 ≤ i ∧ i + 9 ≤ (G.xl : Int)) (hx : G.xl ≤ 4608) (hA : CI A) (hL : Lk A S) (hR : RR A S) (hza : sz + 2 ≤ G.b0 + mm_mxC) (hla : sl + 12 ≤ mm_mxS) (hk : ∀ (A' S' : Sg) (sz' sl' : Nat) (o5 o6 o7 : Option AV), CI A' → Lk A' S' → RR A' S' → sz' ≤ sz + 1 → sl' ≤ sl + 6 → Ez G 124 1789 [some (aR 70 (0 : Int)), some (aR 0 (0 : Int)), some (aR 20 (0 : Int)), some (aR 51 (0 : Int)), some (aI i), o5, o6, o7] [] S' sz' sl' (k + 10) Q) : Ez G 124 430 [some (aR 70 (0 : Int)), some (aR 0 (0 : Int)), some (aR 20 (0 : Int)), some (aR 51 (0 : Int)), some (aI i), o5, o6, o7] [] S sz sl (k + 10) Q := by
  refine ez_rg (fun hg1 => ?_)
  refine ez_sg 6 (p := 0 ≤ (i + 1) ∧ (i + 1) < (G.xl : Int)) (pc' := 437) (ls' := [some (aR 70 (0 : Int)), some (aR 0 (0 : Int)), some (aR 20 (0 : Int)), some (aR 51 (0 : Int)), some (aI i), o5, o6, o7]) (st' := [aI (scV G (i + 1)), aR 0 (0 : Int)]) (S' := S) rfl (by omega) ?_
  refine ez_sg 6 (p := 0 ≤ (i + 2) ∧ (i + 2) < (G.xl : Int)) (pc' := 444) (ls' := [some (aR 70 (0 : Int)), some (aR 0 (0 : Int)), some (aR 20 (0 : Int)), some (aR 51 (0 : Int)), some (aI i), o5, o6, o7]) (st' := [aR 70 (0 : Int), aI (scV G (i + 2)), aI (scV G (i + 1)), aR 0 (0 : Int)]) (S' := S) rfl (by omega) ?_
  refine ez_sg 5 (p := 0 ≤ (i + 3) ∧ (i + 3) < (G.xl : Int)) (pc' := 450) (ls' := [some (aR 70 (0 : Int)), some (aR 0 (0 : Int)), some (aR 20 (0 : Int)), some (aR 51 (0 : Int)), some (aI i), o5, o6, o7]) (st' := [aR 51 (0 : Int), aI (scV G (i + 3)), aI (scV G (i + 2)), aI (scV G (i + 1)), aR 0 (0 : Int)]) (S' := S) rfl (by omega) ?_
  refine ez_callZ rfl rfl [aR 0 (0 : Int), aI (scV G (i + 1)), aI (scV G (i + 2)), aI (scV G (i + 3)), aR 51 (0 : Int)] [] rfl rfl (Nat.le_of_ble_eq_true rfl) (Nat.le_of_ble_eq_true rfl) (Nat.le_of_ble_eq_true rfl) ?_
  refine zInto (A := A) hL hA (by omega) (by omega) (c := (scV G (i + 1))) (p := (scV G (i + 2))) (r := (scV G (i + 3))) (r32_of _) (r32_of _) (r32_of _) (fun S1 sz1 sl1 j1 j2 j3 j4 j5 => ⟨_, rfl, ?_⟩)
  have hci : CI (opInto A (scV G (i + 1)) (scV G (i + 2)) (scV G (i + 3))).2.1 := opInto_ci hA
  have hbv := opInto_v (A := A) (c := (scV G (i + 1))) (p := (scV G (i + 2))) (r := (scV G (i + 3)))
  generalize hop : opInto A (scV G (i + 1)) (scV G (i + 2)) (scV G (i + 3)) = oo at j1 j3 hci hbv ⊢
  have hz : sz1 + 1 ≤ G.b0 + mm_mxC := by omega
  have hl : sl1 + 6 ≤ mm_mxS := by omega
  show Ez G 124 453 [some (aR 70 (0 : Int)), some (aR 0 (0 : Int)), some (aR 20 (0 : Int)), some (aR 51 (0 : Int)), some (aI i), o5, o6, o7] [aI (oo.1)] S1 _ _ _ _
  refine ez_rg (fun hg2 => ?_)
  refine ez_s0 6 (pc' := 461) (ls' := [some (aR 70 (0 : Int)), some (aR 0 (0 : Int)), some (aR 20 (0 : Int)), some (aR 51 (0 : Int)), some (aI i), some (aI (oo.1)), o6, o7]) (st' := [aI (i + 1), aR 70 (0 : Int), aR 20 (0 : Int)]) (S' := S1) rfl ?_
  refine ez_sg 6 (p := (0 ≤ (i + 1) ∧ (i + 1) < (G.xl : Int)) ∧ (0 ≤ (i + 2) ∧ (i + 2) < (G.xl : Int))) (pc' := 468) (ls' := [some (aR 70 (0 : Int)), some (aR 0 (0 : Int)), some (aR 20 (0 : Int)), some (aR 51 (0 : Int)), some (aI i), some (aI (oo.1)), o6, o7]) (st' := [aI (scV G (i + 2)), aI (scV G (i + 1)), aR 20 (0 : Int)]) (S' := S1) rfl ⟨(by omega), (by omega)⟩ ?_
  refine ez_sg 5 (p := 0 ≤ (i + 3) ∧ (i + 3) < (G.xl : Int)) (pc' := 474) (ls' := [some (aR 70 (0 : Int)), some (aR 0 (0 : Int)), some (aR 20 (0 : Int)), some (aR 51 (0 : Int)), some (aI i), some (aI (oo.1)), o6, o7]) (st' := [aI (scV G (i + 3)), aI (scV G (i + 2)), aI (scV G (i + 1)), aR 20 (0 : Int)]) (S' := S1) rfl (by omega) ?_
  refine ez_callV rfl rfl 20 (0 : Int) [aI (scV G (i + 1)), aI (scV G (i + 2)), aI (scV G (i + 3))] [] rfl rfl rfl rfl (Nat.le_of_ble_eq_true rfl) (Nat.le_of_ble_eq_true rfl) (Nat.le_of_ble_eq_true rfl) hz hl ?_
  refine qInto (S := S1) (A := A) hA (hR.fq j2) (c := (scV G (i + 1))) (p := (scV G (i + 2))) (r := (scV G (i + 3))) (r32_of _) (r32_of _) (r32_of _) (fun S2 r q1 q2 q3 q4 q5 => ?_)
  rw [hop] at q1 q3 q5
  have e51 : S2 51 0 0 = S1 51 0 0 := by rw [q2 51 (Or.inr rfl)]
  show Ez G 124 477 [some (aR 70 (0 : Int)), some (aR 0 (0 : Int)), some (aR 20 (0 : Int)), some (aR 51 (0 : Int)), some (aI i), some (aI (oo.1)), o6, o7] [aI r] S2 _ _ _ _
  refine ez_rg (fun hg3 => ?_)
  have hoc : r32 oo.1 := by
    rw [← q3]
    exact rgI hg3 (t := 20) (i := (0 : Int)) (q := (0 : Int)) (by omega : 0 ≤ (0 : Int) ∧ (0 : Int) < 1) (by omega) rfl
  refine ez_s0 2 (pc' := 480) (ls' := [some (aR 70 (0 : Int)), some (aR 0 (0 : Int)), some (aR 20 (0 : Int)), some (aR 51 (0 : Int)), some (aI i), some (aI (oo.1)), some (aI r), o7]) (st' := [aR 20 (0 : Int)]) (S' := S2) rfl ?_
  refine ez_callV rfl rfl 20 (0 : Int) [] [] rfl rfl rfl rfl (Nat.le_of_ble_eq_true rfl) (Nat.le_of_ble_eq_true rfl) (Nat.le_of_ble_eq_true rfl) hz hl ?_
  refine n15 (S := S2) ?_
  show Ez G 124 483 [some (aR 70 (0 : Int)), some (aR 0 (0 : Int)), some (aR 20 (0 : Int)), some (aR 51 (0 : Int)), some (aI i), some (aI (oo.1)), some (aI r), o7] [aI (S2 20 0 0)] S2 _ _ _ _
  refine ez_s0 1 (pc' := 485) (ls' := [some (aR 70 (0 : Int)), some (aR 0 (0 : Int)), some (aR 20 (0 : Int)), some (aR 51 (0 : Int)), some (aI i), some (aI (oo.1)), some (aI r), o7]) (st' := [aI (oo.1), aI (S2 20 0 0)]) (S' := S2) rfl ?_
  refine ez_icmp rfl 490 rfl (rgI hg3 (t := 20) (i := (0 : Int)) (q := (0 : Int)) (by omega : 0 ≤ (0 : Int) ∧ (0 : Int) < 1) (by omega) rfl) hoc (fun (g485 : (S2 20 0 0) = (oo.1)) => ?_) (fun (g485 : ¬ ((S2 20 0 0) = (oo.1))) => ?_)
  · refine ez_s0 1 (pc' := 492) (ls' := [some (aR 70 (0 : Int)), some (aR 0 (0 : Int)), some (aR 20 (0 : Int)), some (aR 51 (0 : Int)), some (aI i), some (aI (oo.1)), some (aI r), o7]) (st' := [aI (oo.1)]) (S' := S2) rfl ?_
    refine ez_if rfl 514 rfl hoc (fun (g492 : ¬ (oo.1) = (0 : Int)) => ?_) (fun (g492 : ¬ (¬ (oo.1) = (0 : Int))) => ?_)
    · refine ez_s0 1 (pc' := 1789) (ls' := [some (aR 70 (0 : Int)), some (aR 0 (0 : Int)), some (aR 20 (0 : Int)), some (aR 51 (0 : Int)), some (aI i), some (aI (oo.1)), some (aI r), o7]) (st' := []) (S' := S2) rfl ?_
      exact hk oo.2.1 S2 sz1 sl1 _ _ _ hci (j1.fd q2) q1 (by omega) (by omega)
    · refine ez_sg 4 (p := ((0 : Int) = 0) ∧ (0 ≤ (0 : Int) ∧ (0 : Int) < 1)) (pc' := 500) (ls' := [some (aR 70 (0 : Int)), some (aR 0 (0 : Int)), some (aR 20 (0 : Int)), some (aR 51 (0 : Int)), some (aI i), some (aI (oo.1)), some (aI r), o7]) (st' := [aI r, aL (S2 51 0 0)]) (S' := S2) rfl ⟨rfl, (by omega)⟩ ?_
      refine ez_if rfl 507 rfl ⟨by have := q4.1; omega, by have := q4.2; omega⟩ (fun (g500 : r = (0 : Int)) => ?_) (fun (g500 : ¬ (r = (0 : Int))) => ?_)
      · refine ez_s0 1 (pc' := 508) (ls' := [some (aR 70 (0 : Int)), some (aR 0 (0 : Int)), some (aR 20 (0 : Int)), some (aR 51 (0 : Int)), some (aI i), some (aI (oo.1)), some (aI r), o7]) (st' := [aL (0 : Int), aL (S2 51 0 0)]) (S' := S2) rfl ?_
        refine ez_lif rfl rfl 514 rfl (rgL hg3 (t := 51) (i := (0 : Int)) (q := (0 : Int)) (by omega : 0 ≤ (0 : Int) ∧ (0 : Int) < 1) (by omega) rfl) ⟨by decide, by decide⟩ (fun (g508 : (S2 51 0 0) = (0 : Int)) => ?_) (fun (g508 : ¬ ((S2 51 0 0) = (0 : Int))) => ?_)
        · refine ez_s0 1 (pc' := 1789) (ls' := [some (aR 70 (0 : Int)), some (aR 0 (0 : Int)), some (aR 20 (0 : Int)), some (aR 51 (0 : Int)), some (aI i), some (aI (oo.1)), some (aI r), o7]) (st' := []) (S' := S2) rfl ?_
          exact hk oo.2.1 S2 sz1 sl1 _ _ _ hci (j1.fd q2) q1 (by omega) (by omega)
        · refine ez_s0 1 (pc' := 513) (ls' := [some (aR 70 (0 : Int)), some (aR 0 (0 : Int)), some (aR 20 (0 : Int)), some (aR 51 (0 : Int)), some (aI i), some (aI (oo.1)), some (aI r), o7]) (st' := [aI (0 : Int)]) (S' := S2) rfl ?_
          refine ez_iret rfl rfl rfl (Or.inr ⟨rfl, (by decide)⟩) ?_
          exfalso; omega
      · refine ez_s0 2 (pc' := 508) (ls' := [some (aR 70 (0 : Int)), some (aR 0 (0 : Int)), some (aR 20 (0 : Int)), some (aR 51 (0 : Int)), some (aI i), some (aI (oo.1)), some (aI r), o7]) (st' := [aL (1 : Int), aL (S2 51 0 0)]) (S' := S2) rfl ?_
        refine ez_lif rfl rfl 514 rfl (rgL hg3 (t := 51) (i := (0 : Int)) (q := (0 : Int)) (by omega : 0 ≤ (0 : Int) ∧ (0 : Int) < 1) (by omega) rfl) ⟨by decide, by decide⟩ (fun (g508 : (S2 51 0 0) = (1 : Int)) => ?_) (fun (g508 : ¬ ((S2 51 0 0) = (1 : Int))) => ?_)
        · refine ez_s0 1 (pc' := 1789) (ls' := [some (aR 70 (0 : Int)), some (aR 0 (0 : Int)), some (aR 20 (0 : Int)), some (aR 51 (0 : Int)), some (aI i), some (aI (oo.1)), some (aI r), o7]) (st' := []) (S' := S2) rfl ?_
          exact hk oo.2.1 S2 sz1 sl1 _ _ _ hci (j1.fd q2) q1 (by omega) (by omega)
        · refine ez_s0 1 (pc' := 513) (ls' := [some (aR 70 (0 : Int)), some (aR 0 (0 : Int)), some (aR 20 (0 : Int)), some (aR 51 (0 : Int)), some (aI i), some (aI (oo.1)), some (aI r), o7]) (st' := [aI (0 : Int)]) (S' := S2) rfl ?_
          refine ez_iret rfl rfl rfl (Or.inr ⟨rfl, (by decide)⟩) ?_
          exfalso; omega
  · refine ez_s0 1 (pc' := 489) (ls' := [some (aR 70 (0 : Int)), some (aR 0 (0 : Int)), some (aR 20 (0 : Int)), some (aR 51 (0 : Int)), some (aI i), some (aI (oo.1)), some (aI r), o7]) (st' := [aI (0 : Int)]) (S' := S2) rfl ?_
    refine ez_iret rfl rfl rfl (Or.inr ⟨rfl, (by decide)⟩) ?_
    exfalso; omega
theorem lawCopy {G : Gw} {S : Sg} {sz sl k : Nat} {Q : ZQ} {A : Sg} {i : Int} {o5 o6 o7 : Option AV} (hi : 0 ≤ i ∧ i + 9 ≤ (G.xl : Int)) (hx : G.xl ≤ 4608) (hA : CI A) (hL : Lk A S) (hR : RR A S) (hza : sz + 2 ≤ G.b0 + mm_mxC) (hla : sl + 12 ≤ mm_mxS) (hk : ∀ (A' S' : Sg) (sz' sl' : Nat) (o5 o6 o7 : Option AV), CI A' → Lk A' S' → RR A' S' → sz' ≤ sz + 1 → sl' ≤ sl + 6 → Ez G 124 1789 [some (aR 70 (0 : Int)), some (aR 0 (0 : Int)), some (aR 20 (0 : Int)), some (aR 51 (0 : Int)), some (aI i), o5, o6, o7] [] S' sz' sl' (k + 10) Q) : Ez G 124 517 [some (aR 70 (0 : Int)), some (aR 0 (0 : Int)), some (aR 20 (0 : Int)), some (aR 51 (0 : Int)), some (aI i), o5, o6, o7] [] S sz sl (k + 10) Q := by
  refine ez_rg (fun hg1 => ?_)
  refine ez_sg 6 (p := 0 ≤ (i + 1) ∧ (i + 1) < (G.xl : Int)) (pc' := 524) (ls' := [some (aR 70 (0 : Int)), some (aR 0 (0 : Int)), some (aR 20 (0 : Int)), some (aR 51 (0 : Int)), some (aI i), o5, o6, o7]) (st' := [aI (scV G (i + 1)), aR 0 (0 : Int)]) (S' := S) rfl (by omega) ?_
  refine ez_sg 6 (p := (0 ≤ (i + 2) ∧ (i + 2) < (G.xl : Int)) ∧ (r32 (scV G (i + 2)))) (pc' := 531) (ls' := [some (aR 70 (0 : Int)), some (aR 0 (0 : Int)), some (aR 20 (0 : Int)), some (aR 51 (0 : Int)), some (aI i), o5, o6, o7]) (st' := [aL (scV G (i + 2)), aI (scV G (i + 1)), aR 0 (0 : Int)]) (S' := S) rfl ⟨(by omega), (r32_of _)⟩ ?_
  refine ez_s0 6 (pc' := 539) (ls' := [some (aR 70 (0 : Int)), some (aR 0 (0 : Int)), some (aR 20 (0 : Int)), some (aR 51 (0 : Int)), some (aI i), o5, o6, o7]) (st' := [aI (i + 3), aR 70 (0 : Int), aL (lShl (scV G (i + 2)) (32 : Int)), aI (scV G (i + 1)), aR 0 (0 : Int)]) (S' := S) rfl ?_
  refine ez_sg 6 (p := (0 ≤ (i + 3) ∧ (i + 3) < (G.xl : Int)) ∧ (r32 (scV G (i + 3)))) (pc' := 547) (ls' := [some (aR 70 (0 : Int)), some (aR 0 (0 : Int)), some (aR 20 (0 : Int)), some (aR 51 (0 : Int)), some (aI i), o5, o6, o7]) (st' := [aR 70 (0 : Int), aL (lOr (lShl (scV G (i + 2)) (32 : Int)) (lAnd (scV G (i + 3)) (4294967295 : Int))), aI (scV G (i + 1)), aR 0 (0 : Int)]) (S' := S) rfl ⟨(by omega), (r32_of _)⟩ ?_
  refine ez_sg 6 (p := (0 ≤ (i + 4) ∧ (i + 4) < (G.xl : Int)) ∧ (r32 (scV G (i + 4)))) (pc' := 555) (ls' := [some (aR 70 (0 : Int)), some (aR 0 (0 : Int)), some (aR 20 (0 : Int)), some (aR 51 (0 : Int)), some (aI i), o5, o6, o7]) (st' := [aI (32 : Int), aL (scV G (i + 4)), aL (lOr (lShl (scV G (i + 2)) (32 : Int)) (lAnd (scV G (i + 3)) (4294967295 : Int))), aI (scV G (i + 1)), aR 0 (0 : Int)]) (S' := S) rfl ⟨(by omega), (r32_of _)⟩ ?_
  refine ez_sg 6 (p := 0 ≤ (i + 5) ∧ (i + 5) < (G.xl : Int)) (pc' := 562) (ls' := [some (aR 70 (0 : Int)), some (aR 0 (0 : Int)), some (aR 20 (0 : Int)), some (aR 51 (0 : Int)), some (aI i), o5, o6, o7]) (st' := [aI (scV G (i + 5)), aL (lShl (scV G (i + 4)) (32 : Int)), aL (lOr (lShl (scV G (i + 2)) (32 : Int)) (lAnd (scV G (i + 3)) (4294967295 : Int))), aI (scV G (i + 1)), aR 0 (0 : Int)]) (S' := S) rfl (by omega) ?_
  refine ez_sg 6 (p := r32 (scV G (i + 5))) (pc' := 571) (ls' := [some (aR 70 (0 : Int)), some (aR 0 (0 : Int)), some (aR 20 (0 : Int)), some (aR 51 (0 : Int)), some (aI i), o5, o6, o7]) (st' := [aI i, aR 70 (0 : Int), aL (lOr (lShl (scV G (i + 4)) (32 : Int)) (lAnd (scV G (i + 5)) (4294967295 : Int))), aL (lOr (lShl (scV G (i + 2)) (32 : Int)) (lAnd (scV G (i + 3)) (4294967295 : Int))), aI (scV G (i + 1)), aR 0 (0 : Int)]) (S' := S) rfl (r32_of _) ?_
  refine ez_sg 4 (p := 0 ≤ (i + 6) ∧ (i + 6) < (G.xl : Int)) (pc' := 576) (ls' := [some (aR 70 (0 : Int)), some (aR 0 (0 : Int)), some (aR 20 (0 : Int)), some (aR 51 (0 : Int)), some (aI i), o5, o6, o7]) (st' := [aR 51 (0 : Int), aI (scV G (i + 6)), aL (lOr (lShl (scV G (i + 4)) (32 : Int)) (lAnd (scV G (i + 5)) (4294967295 : Int))), aL (lOr (lShl (scV G (i + 2)) (32 : Int)) (lAnd (scV G (i + 3)) (4294967295 : Int))), aI (scV G (i + 1)), aR 0 (0 : Int)]) (S' := S) rfl (by omega) ?_
  refine ez_callZ rfl rfl [aR 0 (0 : Int), aI (scV G (i + 1)), aL (lOr (lShl (scV G (i + 2)) (32 : Int)) (lAnd (scV G (i + 3)) (4294967295 : Int))), aL (lOr (lShl (scV G (i + 4)) (32 : Int)) (lAnd (scV G (i + 5)) (4294967295 : Int))), aI (scV G (i + 6)), aR 51 (0 : Int)] [] rfl rfl (Nat.le_of_ble_eq_true rfl) (Nat.le_of_ble_eq_true rfl) (Nat.le_of_ble_eq_true rfl) ?_
  refine zCopy (A := A) hL hA (by omega) (by omega) (m := (scV G (i + 1))) (dx := (lOr (lShl (scV G (i + 2)) (32 : Int)) (lAnd (scV G (i + 3)) (4294967295 : Int)))) (dy := (lOr (lShl (scV G (i + 4)) (32 : Int)) (lAnd (scV G (i + 5)) (4294967295 : Int)))) (t := (scV G (i + 6))) (r32_of _) (r64_of _) (r64_of _) (r32_of _) (fun S1 sz1 sl1 j1 j2 j3 j4 j5 => ⟨_, rfl, ?_⟩)
  have hci : CI (opCopy A (scV G (i + 1)) (lOr (lShl (scV G (i + 2)) (32 : Int)) (lAnd (scV G (i + 3)) (4294967295 : Int))) (lOr (lShl (scV G (i + 4)) (32 : Int)) (lAnd (scV G (i + 5)) (4294967295 : Int))) (scV G (i + 6))).2.1 := opCopy_ci hA
  generalize hop : opCopy A (scV G (i + 1)) (lOr (lShl (scV G (i + 2)) (32 : Int)) (lAnd (scV G (i + 3)) (4294967295 : Int))) (lOr (lShl (scV G (i + 4)) (32 : Int)) (lAnd (scV G (i + 5)) (4294967295 : Int))) (scV G (i + 6)) = oo at j1 j3 hci ⊢
  have hz : sz1 + 1 ≤ G.b0 + mm_mxC := by omega
  have hl : sl1 + 6 ≤ mm_mxS := by omega
  show Ez G 124 579 [some (aR 70 (0 : Int)), some (aR 0 (0 : Int)), some (aR 20 (0 : Int)), some (aR 51 (0 : Int)), some (aI i), o5, o6, o7] [aI (oo.1)] S1 _ _ _ _
  refine ez_rg (fun hg2 => ?_)
  refine ez_s0 6 (pc' := 587) (ls' := [some (aR 70 (0 : Int)), some (aR 0 (0 : Int)), some (aR 20 (0 : Int)), some (aR 51 (0 : Int)), some (aI i), some (aI (oo.1)), o6, o7]) (st' := [aI (i + 1), aR 70 (0 : Int), aR 20 (0 : Int)]) (S' := S1) rfl ?_
  refine ez_sg 6 (p := (0 ≤ (i + 1) ∧ (i + 1) < (G.xl : Int)) ∧ (0 ≤ (i + 2) ∧ (i + 2) < (G.xl : Int))) (pc' := 594) (ls' := [some (aR 70 (0 : Int)), some (aR 0 (0 : Int)), some (aR 20 (0 : Int)), some (aR 51 (0 : Int)), some (aI i), some (aI (oo.1)), o6, o7]) (st' := [aI (scV G (i + 2)), aI (scV G (i + 1)), aR 20 (0 : Int)]) (S' := S1) rfl ⟨(by omega), (by omega)⟩ ?_
  refine ez_sg 6 (p := r32 (scV G (i + 2))) (pc' := 602) (ls' := [some (aR 70 (0 : Int)), some (aR 0 (0 : Int)), some (aR 20 (0 : Int)), some (aR 51 (0 : Int)), some (aI i), some (aI (oo.1)), o6, o7]) (st' := [aI (3 : Int), aI i, aR 70 (0 : Int), aL (lShl (scV G (i + 2)) (32 : Int)), aI (scV G (i + 1)), aR 20 (0 : Int)]) (S' := S1) rfl (r32_of _) ?_
  refine ez_sg 6 (p := (0 ≤ (i + 3) ∧ (i + 3) < (G.xl : Int)) ∧ (r32 (scV G (i + 3)))) (pc' := 610) (ls' := [some (aR 70 (0 : Int)), some (aR 0 (0 : Int)), some (aR 20 (0 : Int)), some (aR 51 (0 : Int)), some (aI i), some (aI (oo.1)), o6, o7]) (st' := [aL (lOr (lShl (scV G (i + 2)) (32 : Int)) (lAnd (scV G (i + 3)) (4294967295 : Int))), aI (scV G (i + 1)), aR 20 (0 : Int)]) (S' := S1) rfl ⟨(by omega), (r32_of _)⟩ ?_
  refine ez_sg 6 (p := (0 ≤ (i + 4) ∧ (i + 4) < (G.xl : Int)) ∧ (r32 (scV G (i + 4)))) (pc' := 617) (ls' := [some (aR 70 (0 : Int)), some (aR 0 (0 : Int)), some (aR 20 (0 : Int)), some (aR 51 (0 : Int)), some (aI i), some (aI (oo.1)), o6, o7]) (st' := [aL (scV G (i + 4)), aL (lOr (lShl (scV G (i + 2)) (32 : Int)) (lAnd (scV G (i + 3)) (4294967295 : Int))), aI (scV G (i + 1)), aR 20 (0 : Int)]) (S' := S1) rfl ⟨(by omega), (r32_of _)⟩ ?_
  refine ez_s0 6 (pc' := 625) (ls' := [some (aR 70 (0 : Int)), some (aR 0 (0 : Int)), some (aR 20 (0 : Int)), some (aR 51 (0 : Int)), some (aI i), some (aI (oo.1)), o6, o7]) (st' := [aI (i + 5), aR 70 (0 : Int), aL (lShl (scV G (i + 4)) (32 : Int)), aL (lOr (lShl (scV G (i + 2)) (32 : Int)) (lAnd (scV G (i + 3)) (4294967295 : Int))), aI (scV G (i + 1)), aR 20 (0 : Int)]) (S' := S1) rfl ?_
  refine ez_sg 6 (p := (0 ≤ (i + 5) ∧ (i + 5) < (G.xl : Int)) ∧ (r32 (scV G (i + 5)))) (pc' := 633) (ls' := [some (aR 70 (0 : Int)), some (aR 0 (0 : Int)), some (aR 20 (0 : Int)), some (aR 51 (0 : Int)), some (aI i), some (aI (oo.1)), o6, o7]) (st' := [aR 70 (0 : Int), aL (lOr (lShl (scV G (i + 4)) (32 : Int)) (lAnd (scV G (i + 5)) (4294967295 : Int))), aL (lOr (lShl (scV G (i + 2)) (32 : Int)) (lAnd (scV G (i + 3)) (4294967295 : Int))), aI (scV G (i + 1)), aR 20 (0 : Int)]) (S' := S1) rfl ⟨(by omega), (r32_of _)⟩ ?_
  refine ez_sg 4 (p := 0 ≤ (i + 6) ∧ (i + 6) < (G.xl : Int)) (pc' := 639) (ls' := [some (aR 70 (0 : Int)), some (aR 0 (0 : Int)), some (aR 20 (0 : Int)), some (aR 51 (0 : Int)), some (aI i), some (aI (oo.1)), o6, o7]) (st' := [aI (scV G (i + 6)), aL (lOr (lShl (scV G (i + 4)) (32 : Int)) (lAnd (scV G (i + 5)) (4294967295 : Int))), aL (lOr (lShl (scV G (i + 2)) (32 : Int)) (lAnd (scV G (i + 3)) (4294967295 : Int))), aI (scV G (i + 1)), aR 20 (0 : Int)]) (S' := S1) rfl (by omega) ?_
  refine ez_callV rfl rfl 20 (0 : Int) [aI (scV G (i + 1)), aL (lOr (lShl (scV G (i + 2)) (32 : Int)) (lAnd (scV G (i + 3)) (4294967295 : Int))), aL (lOr (lShl (scV G (i + 4)) (32 : Int)) (lAnd (scV G (i + 5)) (4294967295 : Int))), aI (scV G (i + 6))] [] rfl rfl rfl rfl (Nat.le_of_ble_eq_true rfl) (Nat.le_of_ble_eq_true rfl) (Nat.le_of_ble_eq_true rfl) hz hl ?_
  refine qCopy (S := S1) (A := A) hA (hR.fq j2) (m := (scV G (i + 1))) (dx := (lOr (lShl (scV G (i + 2)) (32 : Int)) (lAnd (scV G (i + 3)) (4294967295 : Int)))) (dy := (lOr (lShl (scV G (i + 4)) (32 : Int)) (lAnd (scV G (i + 5)) (4294967295 : Int)))) (t := (scV G (i + 6))) (r32_of _) (r64_of _) (r64_of _) (r32_of _) (fun S2 r q1 q2 q3 q4 q5 => ?_)
  rw [hop] at q1 q3 q5
  have e51 : S2 51 0 0 = S1 51 0 0 := by rw [q2 51 (Or.inr rfl)]
  show Ez G 124 642 [some (aR 70 (0 : Int)), some (aR 0 (0 : Int)), some (aR 20 (0 : Int)), some (aR 51 (0 : Int)), some (aI i), some (aI (oo.1)), o6, o7] [aI r] S2 _ _ _ _
  refine ez_rg (fun hg3 => ?_)
  have hoc : r32 oo.1 := by
    rw [← q3]
    exact rgI hg3 (t := 20) (i := (0 : Int)) (q := (0 : Int)) (by omega : 0 ≤ (0 : Int) ∧ (0 : Int) < 1) (by omega) rfl
  refine ez_s0 2 (pc' := 645) (ls' := [some (aR 70 (0 : Int)), some (aR 0 (0 : Int)), some (aR 20 (0 : Int)), some (aR 51 (0 : Int)), some (aI i), some (aI (oo.1)), some (aI r), o7]) (st' := [aR 20 (0 : Int)]) (S' := S2) rfl ?_
  refine ez_callV rfl rfl 20 (0 : Int) [] [] rfl rfl rfl rfl (Nat.le_of_ble_eq_true rfl) (Nat.le_of_ble_eq_true rfl) (Nat.le_of_ble_eq_true rfl) hz hl ?_
  refine n15 (S := S2) ?_
  show Ez G 124 648 [some (aR 70 (0 : Int)), some (aR 0 (0 : Int)), some (aR 20 (0 : Int)), some (aR 51 (0 : Int)), some (aI i), some (aI (oo.1)), some (aI r), o7] [aI (S2 20 0 0)] S2 _ _ _ _
  refine ez_s0 1 (pc' := 650) (ls' := [some (aR 70 (0 : Int)), some (aR 0 (0 : Int)), some (aR 20 (0 : Int)), some (aR 51 (0 : Int)), some (aI i), some (aI (oo.1)), some (aI r), o7]) (st' := [aI (oo.1), aI (S2 20 0 0)]) (S' := S2) rfl ?_
  refine ez_icmp rfl 655 rfl (rgI hg3 (t := 20) (i := (0 : Int)) (q := (0 : Int)) (by omega : 0 ≤ (0 : Int) ∧ (0 : Int) < 1) (by omega) rfl) hoc (fun (g650 : (S2 20 0 0) = (oo.1)) => ?_) (fun (g650 : ¬ ((S2 20 0 0) = (oo.1))) => ?_)
  · refine ez_s0 1 (pc' := 657) (ls' := [some (aR 70 (0 : Int)), some (aR 0 (0 : Int)), some (aR 20 (0 : Int)), some (aR 51 (0 : Int)), some (aI i), some (aI (oo.1)), some (aI r), o7]) (st' := [aI (oo.1)]) (S' := S2) rfl ?_
    refine ez_if rfl 672 rfl hoc (fun (g657 : ¬ (oo.1) = (0 : Int)) => ?_) (fun (g657 : ¬ (¬ (oo.1) = (0 : Int))) => ?_)
    · refine ez_s0 1 (pc' := 1789) (ls' := [some (aR 70 (0 : Int)), some (aR 0 (0 : Int)), some (aR 20 (0 : Int)), some (aR 51 (0 : Int)), some (aI i), some (aI (oo.1)), some (aI r), o7]) (st' := []) (S' := S2) rfl ?_
      exact hk oo.2.1 S2 sz1 sl1 _ _ _ hci (j1.fd q2) q1 (by omega) (by omega)
    · refine ez_sg 5 (p := (((0 : Int) = 0) ∧ (0 ≤ (0 : Int) ∧ (0 : Int) < 1)) ∧ (r32 r)) (pc' := 666) (ls' := [some (aR 70 (0 : Int)), some (aR 0 (0 : Int)), some (aR 20 (0 : Int)), some (aR 51 (0 : Int)), some (aI i), some (aI (oo.1)), some (aI r), o7]) (st' := [aL r, aL (S2 51 0 0)]) (S' := S2) rfl ⟨⟨rfl, (by omega)⟩, ⟨by have := q4.1; omega, by have := q4.2; omega⟩⟩ ?_
      refine ez_lif rfl rfl 672 rfl (rgL hg3 (t := 51) (i := (0 : Int)) (q := (0 : Int)) (by omega : 0 ≤ (0 : Int) ∧ (0 : Int) < 1) (by omega) rfl) ⟨by have := q4.1; omega, by have := q4.2; omega⟩ (fun (g666 : (S2 51 0 0) = r) => ?_) (fun (g666 : ¬ ((S2 51 0 0) = r)) => ?_)
      · refine ez_s0 1 (pc' := 1789) (ls' := [some (aR 70 (0 : Int)), some (aR 0 (0 : Int)), some (aR 20 (0 : Int)), some (aR 51 (0 : Int)), some (aI i), some (aI (oo.1)), some (aI r), o7]) (st' := []) (S' := S2) rfl ?_
        exact hk oo.2.1 S2 sz1 sl1 _ _ _ hci (j1.fd q2) q1 (by omega) (by omega)
      · refine ez_s0 1 (pc' := 671) (ls' := [some (aR 70 (0 : Int)), some (aR 0 (0 : Int)), some (aR 20 (0 : Int)), some (aR 51 (0 : Int)), some (aI i), some (aI (oo.1)), some (aI r), o7]) (st' := [aI (0 : Int)]) (S' := S2) rfl ?_
        refine ez_iret rfl rfl rfl (Or.inr ⟨rfl, (by decide)⟩) ?_
        exfalso; omega
  · refine ez_s0 1 (pc' := 654) (ls' := [some (aR 70 (0 : Int)), some (aR 0 (0 : Int)), some (aR 20 (0 : Int)), some (aR 51 (0 : Int)), some (aI i), some (aI (oo.1)), some (aI r), o7]) (st' := [aI (0 : Int)]) (S' := S2) rfl ?_
    refine ez_iret rfl rfl rfl (Or.inr ⟨rfl, (by decide)⟩) ?_
    exfalso; omega
theorem lawHand {G : Gw} {S : Sg} {sz sl k : Nat} {Q : ZQ} {A : Sg} {i : Int} {o5 o6 o7 : Option AV} (hi : 0 ≤ i ∧ i + 9 ≤ (G.xl : Int)) (hx : G.xl ≤ 4608) (hA : CI A) (hL : Lk A S) (hR : RR A S) (hza : sz + 2 ≤ G.b0 + mm_mxC) (hla : sl + 12 ≤ mm_mxS) (hk : ∀ (A' S' : Sg) (sz' sl' : Nat) (o5 o6 o7 : Option AV), CI A' → Lk A' S' → RR A' S' → sz' ≤ sz + 1 → sl' ≤ sl + 6 → Ez G 124 1789 [some (aR 70 (0 : Int)), some (aR 0 (0 : Int)), some (aR 20 (0 : Int)), some (aR 51 (0 : Int)), some (aI i), o5, o6, o7] [] S' sz' sl' (k + 10) Q) : Ez G 124 675 [some (aR 70 (0 : Int)), some (aR 0 (0 : Int)), some (aR 20 (0 : Int)), some (aR 51 (0 : Int)), some (aI i), o5, o6, o7] [] S sz sl (k + 10) Q := by
  refine ez_rg (fun hg1 => ?_)
  refine ez_sg 6 (p := 0 ≤ (i + 1) ∧ (i + 1) < (G.xl : Int)) (pc' := 682) (ls' := [some (aR 70 (0 : Int)), some (aR 0 (0 : Int)), some (aR 20 (0 : Int)), some (aR 51 (0 : Int)), some (aI i), o5, o6, o7]) (st' := [aI (scV G (i + 1)), aR 0 (0 : Int)]) (S' := S) rfl (by omega) ?_
  refine ez_sg 6 (p := (0 ≤ (i + 2) ∧ (i + 2) < (G.xl : Int)) ∧ (r32 (scV G (i + 2)))) (pc' := 689) (ls' := [some (aR 70 (0 : Int)), some (aR 0 (0 : Int)), some (aR 20 (0 : Int)), some (aR 51 (0 : Int)), some (aI i), o5, o6, o7]) (st' := [aL (scV G (i + 2)), aI (scV G (i + 1)), aR 0 (0 : Int)]) (S' := S) rfl ⟨(by omega), (r32_of _)⟩ ?_
  refine ez_s0 6 (pc' := 697) (ls' := [some (aR 70 (0 : Int)), some (aR 0 (0 : Int)), some (aR 20 (0 : Int)), some (aR 51 (0 : Int)), some (aI i), o5, o6, o7]) (st' := [aI (i + 3), aR 70 (0 : Int), aL (lShl (scV G (i + 2)) (32 : Int)), aI (scV G (i + 1)), aR 0 (0 : Int)]) (S' := S) rfl ?_
  refine ez_sg 6 (p := (0 ≤ (i + 3) ∧ (i + 3) < (G.xl : Int)) ∧ (r32 (scV G (i + 3)))) (pc' := 705) (ls' := [some (aR 70 (0 : Int)), some (aR 0 (0 : Int)), some (aR 20 (0 : Int)), some (aR 51 (0 : Int)), some (aI i), o5, o6, o7]) (st' := [aR 70 (0 : Int), aL (lOr (lShl (scV G (i + 2)) (32 : Int)) (lAnd (scV G (i + 3)) (4294967295 : Int))), aI (scV G (i + 1)), aR 0 (0 : Int)]) (S' := S) rfl ⟨(by omega), (r32_of _)⟩ ?_
  refine ez_sg 6 (p := (0 ≤ (i + 4) ∧ (i + 4) < (G.xl : Int)) ∧ (r32 (scV G (i + 4)))) (pc' := 713) (ls' := [some (aR 70 (0 : Int)), some (aR 0 (0 : Int)), some (aR 20 (0 : Int)), some (aR 51 (0 : Int)), some (aI i), o5, o6, o7]) (st' := [aI (32 : Int), aL (scV G (i + 4)), aL (lOr (lShl (scV G (i + 2)) (32 : Int)) (lAnd (scV G (i + 3)) (4294967295 : Int))), aI (scV G (i + 1)), aR 0 (0 : Int)]) (S' := S) rfl ⟨(by omega), (r32_of _)⟩ ?_
  refine ez_sg 6 (p := 0 ≤ (i + 5) ∧ (i + 5) < (G.xl : Int)) (pc' := 720) (ls' := [some (aR 70 (0 : Int)), some (aR 0 (0 : Int)), some (aR 20 (0 : Int)), some (aR 51 (0 : Int)), some (aI i), o5, o6, o7]) (st' := [aI (scV G (i + 5)), aL (lShl (scV G (i + 4)) (32 : Int)), aL (lOr (lShl (scV G (i + 2)) (32 : Int)) (lAnd (scV G (i + 3)) (4294967295 : Int))), aI (scV G (i + 1)), aR 0 (0 : Int)]) (S' := S) rfl (by omega) ?_
  refine ez_sg 5 (p := r32 (scV G (i + 5))) (pc' := 727) (ls' := [some (aR 70 (0 : Int)), some (aR 0 (0 : Int)), some (aR 20 (0 : Int)), some (aR 51 (0 : Int)), some (aI i), o5, o6, o7]) (st' := [aR 51 (0 : Int), aL (lOr (lShl (scV G (i + 4)) (32 : Int)) (lAnd (scV G (i + 5)) (4294967295 : Int))), aL (lOr (lShl (scV G (i + 2)) (32 : Int)) (lAnd (scV G (i + 3)) (4294967295 : Int))), aI (scV G (i + 1)), aR 0 (0 : Int)]) (S' := S) rfl (r32_of _) ?_
  refine ez_callZ rfl rfl [aR 0 (0 : Int), aI (scV G (i + 1)), aL (lOr (lShl (scV G (i + 2)) (32 : Int)) (lAnd (scV G (i + 3)) (4294967295 : Int))), aL (lOr (lShl (scV G (i + 4)) (32 : Int)) (lAnd (scV G (i + 5)) (4294967295 : Int))), aR 51 (0 : Int)] [] rfl rfl (Nat.le_of_ble_eq_true rfl) (Nat.le_of_ble_eq_true rfl) (Nat.le_of_ble_eq_true rfl) ?_
  refine zHand (A := A) hL hA (by omega) (by omega) (p := (scV G (i + 1))) (x := (lOr (lShl (scV G (i + 2)) (32 : Int)) (lAnd (scV G (i + 3)) (4294967295 : Int)))) (y := (lOr (lShl (scV G (i + 4)) (32 : Int)) (lAnd (scV G (i + 5)) (4294967295 : Int)))) (r32_of _) (r64_of _) (r64_of _) (fun S1 sz1 sl1 j1 j2 j3 j4 j5 => ⟨_, rfl, ?_⟩)
  have hci : CI (opHand A (scV G (i + 1)) (lOr (lShl (scV G (i + 2)) (32 : Int)) (lAnd (scV G (i + 3)) (4294967295 : Int))) (lOr (lShl (scV G (i + 4)) (32 : Int)) (lAnd (scV G (i + 5)) (4294967295 : Int)))).2.1 := opHand_ci hA
  have hbv := opHand_v (A := A) (p := (scV G (i + 1))) (x := (lOr (lShl (scV G (i + 2)) (32 : Int)) (lAnd (scV G (i + 3)) (4294967295 : Int)))) (y := (lOr (lShl (scV G (i + 4)) (32 : Int)) (lAnd (scV G (i + 5)) (4294967295 : Int))))
  generalize hop : opHand A (scV G (i + 1)) (lOr (lShl (scV G (i + 2)) (32 : Int)) (lAnd (scV G (i + 3)) (4294967295 : Int))) (lOr (lShl (scV G (i + 4)) (32 : Int)) (lAnd (scV G (i + 5)) (4294967295 : Int))) = oo at j1 j3 hci hbv ⊢
  have hz : sz1 + 1 ≤ G.b0 + mm_mxC := by omega
  have hl : sl1 + 6 ≤ mm_mxS := by omega
  show Ez G 124 730 [some (aR 70 (0 : Int)), some (aR 0 (0 : Int)), some (aR 20 (0 : Int)), some (aR 51 (0 : Int)), some (aI i), o5, o6, o7] [aI (oo.1)] S1 _ _ _ _
  refine ez_rg (fun hg2 => ?_)
  refine ez_s0 6 (pc' := 738) (ls' := [some (aR 70 (0 : Int)), some (aR 0 (0 : Int)), some (aR 20 (0 : Int)), some (aR 51 (0 : Int)), some (aI i), some (aI (oo.1)), o6, o7]) (st' := [aI (i + 1), aR 70 (0 : Int), aR 20 (0 : Int)]) (S' := S1) rfl ?_
  refine ez_sg 6 (p := (0 ≤ (i + 1) ∧ (i + 1) < (G.xl : Int)) ∧ (0 ≤ (i + 2) ∧ (i + 2) < (G.xl : Int))) (pc' := 745) (ls' := [some (aR 70 (0 : Int)), some (aR 0 (0 : Int)), some (aR 20 (0 : Int)), some (aR 51 (0 : Int)), some (aI i), some (aI (oo.1)), o6, o7]) (st' := [aI (scV G (i + 2)), aI (scV G (i + 1)), aR 20 (0 : Int)]) (S' := S1) rfl ⟨(by omega), (by omega)⟩ ?_
  refine ez_sg 6 (p := r32 (scV G (i + 2))) (pc' := 753) (ls' := [some (aR 70 (0 : Int)), some (aR 0 (0 : Int)), some (aR 20 (0 : Int)), some (aR 51 (0 : Int)), some (aI i), some (aI (oo.1)), o6, o7]) (st' := [aI (3 : Int), aI i, aR 70 (0 : Int), aL (lShl (scV G (i + 2)) (32 : Int)), aI (scV G (i + 1)), aR 20 (0 : Int)]) (S' := S1) rfl (r32_of _) ?_
  refine ez_sg 6 (p := (0 ≤ (i + 3) ∧ (i + 3) < (G.xl : Int)) ∧ (r32 (scV G (i + 3)))) (pc' := 761) (ls' := [some (aR 70 (0 : Int)), some (aR 0 (0 : Int)), some (aR 20 (0 : Int)), some (aR 51 (0 : Int)), some (aI i), some (aI (oo.1)), o6, o7]) (st' := [aL (lOr (lShl (scV G (i + 2)) (32 : Int)) (lAnd (scV G (i + 3)) (4294967295 : Int))), aI (scV G (i + 1)), aR 20 (0 : Int)]) (S' := S1) rfl ⟨(by omega), (r32_of _)⟩ ?_
  refine ez_sg 6 (p := (0 ≤ (i + 4) ∧ (i + 4) < (G.xl : Int)) ∧ (r32 (scV G (i + 4)))) (pc' := 768) (ls' := [some (aR 70 (0 : Int)), some (aR 0 (0 : Int)), some (aR 20 (0 : Int)), some (aR 51 (0 : Int)), some (aI i), some (aI (oo.1)), o6, o7]) (st' := [aL (scV G (i + 4)), aL (lOr (lShl (scV G (i + 2)) (32 : Int)) (lAnd (scV G (i + 3)) (4294967295 : Int))), aI (scV G (i + 1)), aR 20 (0 : Int)]) (S' := S1) rfl ⟨(by omega), (r32_of _)⟩ ?_
  refine ez_s0 6 (pc' := 776) (ls' := [some (aR 70 (0 : Int)), some (aR 0 (0 : Int)), some (aR 20 (0 : Int)), some (aR 51 (0 : Int)), some (aI i), some (aI (oo.1)), o6, o7]) (st' := [aI (i + 5), aR 70 (0 : Int), aL (lShl (scV G (i + 4)) (32 : Int)), aL (lOr (lShl (scV G (i + 2)) (32 : Int)) (lAnd (scV G (i + 3)) (4294967295 : Int))), aI (scV G (i + 1)), aR 20 (0 : Int)]) (S' := S1) rfl ?_
  refine ez_sg 5 (p := (0 ≤ (i + 5) ∧ (i + 5) < (G.xl : Int)) ∧ (r32 (scV G (i + 5)))) (pc' := 783) (ls' := [some (aR 70 (0 : Int)), some (aR 0 (0 : Int)), some (aR 20 (0 : Int)), some (aR 51 (0 : Int)), some (aI i), some (aI (oo.1)), o6, o7]) (st' := [aL (lOr (lShl (scV G (i + 4)) (32 : Int)) (lAnd (scV G (i + 5)) (4294967295 : Int))), aL (lOr (lShl (scV G (i + 2)) (32 : Int)) (lAnd (scV G (i + 3)) (4294967295 : Int))), aI (scV G (i + 1)), aR 20 (0 : Int)]) (S' := S1) rfl ⟨(by omega), (r32_of _)⟩ ?_
  refine ez_callV rfl rfl 20 (0 : Int) [aI (scV G (i + 1)), aL (lOr (lShl (scV G (i + 2)) (32 : Int)) (lAnd (scV G (i + 3)) (4294967295 : Int))), aL (lOr (lShl (scV G (i + 4)) (32 : Int)) (lAnd (scV G (i + 5)) (4294967295 : Int)))] [] rfl rfl rfl rfl (Nat.le_of_ble_eq_true rfl) (Nat.le_of_ble_eq_true rfl) (Nat.le_of_ble_eq_true rfl) hz hl ?_
  refine qHand (S := S1) (A := A) hA (hR.fq j2) (p := (scV G (i + 1))) (x := (lOr (lShl (scV G (i + 2)) (32 : Int)) (lAnd (scV G (i + 3)) (4294967295 : Int)))) (y := (lOr (lShl (scV G (i + 4)) (32 : Int)) (lAnd (scV G (i + 5)) (4294967295 : Int)))) (r32_of _) (r64_of _) (r64_of _) (fun S2 r q1 q2 q3 q4 q5 => ?_)
  rw [hop] at q1 q3 q5
  have e51 : S2 51 0 0 = S1 51 0 0 := by rw [q2 51 (Or.inr rfl)]
  show Ez G 124 786 [some (aR 70 (0 : Int)), some (aR 0 (0 : Int)), some (aR 20 (0 : Int)), some (aR 51 (0 : Int)), some (aI i), some (aI (oo.1)), o6, o7] [aI r] S2 _ _ _ _
  refine ez_rg (fun hg3 => ?_)
  have hoc : r32 oo.1 := by
    rw [← q3]
    exact rgI hg3 (t := 20) (i := (0 : Int)) (q := (0 : Int)) (by omega : 0 ≤ (0 : Int) ∧ (0 : Int) < 1) (by omega) rfl
  refine ez_s0 2 (pc' := 789) (ls' := [some (aR 70 (0 : Int)), some (aR 0 (0 : Int)), some (aR 20 (0 : Int)), some (aR 51 (0 : Int)), some (aI i), some (aI (oo.1)), some (aI r), o7]) (st' := [aR 20 (0 : Int)]) (S' := S2) rfl ?_
  refine ez_callV rfl rfl 20 (0 : Int) [] [] rfl rfl rfl rfl (Nat.le_of_ble_eq_true rfl) (Nat.le_of_ble_eq_true rfl) (Nat.le_of_ble_eq_true rfl) hz hl ?_
  refine n15 (S := S2) ?_
  show Ez G 124 792 [some (aR 70 (0 : Int)), some (aR 0 (0 : Int)), some (aR 20 (0 : Int)), some (aR 51 (0 : Int)), some (aI i), some (aI (oo.1)), some (aI r), o7] [aI (S2 20 0 0)] S2 _ _ _ _
  refine ez_s0 1 (pc' := 794) (ls' := [some (aR 70 (0 : Int)), some (aR 0 (0 : Int)), some (aR 20 (0 : Int)), some (aR 51 (0 : Int)), some (aI i), some (aI (oo.1)), some (aI r), o7]) (st' := [aI (oo.1), aI (S2 20 0 0)]) (S' := S2) rfl ?_
  refine ez_icmp rfl 799 rfl (rgI hg3 (t := 20) (i := (0 : Int)) (q := (0 : Int)) (by omega : 0 ≤ (0 : Int) ∧ (0 : Int) < 1) (by omega) rfl) hoc (fun (g794 : (S2 20 0 0) = (oo.1)) => ?_) (fun (g794 : ¬ ((S2 20 0 0) = (oo.1))) => ?_)
  · refine ez_s0 1 (pc' := 801) (ls' := [some (aR 70 (0 : Int)), some (aR 0 (0 : Int)), some (aR 20 (0 : Int)), some (aR 51 (0 : Int)), some (aI i), some (aI (oo.1)), some (aI r), o7]) (st' := [aI (oo.1)]) (S' := S2) rfl ?_
    refine ez_if rfl 823 rfl hoc (fun (g801 : ¬ (oo.1) = (0 : Int)) => ?_) (fun (g801 : ¬ (¬ (oo.1) = (0 : Int))) => ?_)
    · refine ez_s0 1 (pc' := 1789) (ls' := [some (aR 70 (0 : Int)), some (aR 0 (0 : Int)), some (aR 20 (0 : Int)), some (aR 51 (0 : Int)), some (aI i), some (aI (oo.1)), some (aI r), o7]) (st' := []) (S' := S2) rfl ?_
      exact hk oo.2.1 S2 sz1 sl1 _ _ _ hci (j1.fd q2) q1 (by omega) (by omega)
    · refine ez_sg 4 (p := ((0 : Int) = 0) ∧ (0 ≤ (0 : Int) ∧ (0 : Int) < 1)) (pc' := 809) (ls' := [some (aR 70 (0 : Int)), some (aR 0 (0 : Int)), some (aR 20 (0 : Int)), some (aR 51 (0 : Int)), some (aI i), some (aI (oo.1)), some (aI r), o7]) (st' := [aI r, aL (S2 51 0 0)]) (S' := S2) rfl ⟨rfl, (by omega)⟩ ?_
      refine ez_if rfl 816 rfl ⟨by have := q4.1; omega, by have := q4.2; omega⟩ (fun (g809 : r = (0 : Int)) => ?_) (fun (g809 : ¬ (r = (0 : Int))) => ?_)
      · refine ez_s0 1 (pc' := 817) (ls' := [some (aR 70 (0 : Int)), some (aR 0 (0 : Int)), some (aR 20 (0 : Int)), some (aR 51 (0 : Int)), some (aI i), some (aI (oo.1)), some (aI r), o7]) (st' := [aL (0 : Int), aL (S2 51 0 0)]) (S' := S2) rfl ?_
        refine ez_lif rfl rfl 823 rfl (rgL hg3 (t := 51) (i := (0 : Int)) (q := (0 : Int)) (by omega : 0 ≤ (0 : Int) ∧ (0 : Int) < 1) (by omega) rfl) ⟨by decide, by decide⟩ (fun (g817 : (S2 51 0 0) = (0 : Int)) => ?_) (fun (g817 : ¬ ((S2 51 0 0) = (0 : Int))) => ?_)
        · refine ez_s0 1 (pc' := 1789) (ls' := [some (aR 70 (0 : Int)), some (aR 0 (0 : Int)), some (aR 20 (0 : Int)), some (aR 51 (0 : Int)), some (aI i), some (aI (oo.1)), some (aI r), o7]) (st' := []) (S' := S2) rfl ?_
          exact hk oo.2.1 S2 sz1 sl1 _ _ _ hci (j1.fd q2) q1 (by omega) (by omega)
        · refine ez_s0 1 (pc' := 822) (ls' := [some (aR 70 (0 : Int)), some (aR 0 (0 : Int)), some (aR 20 (0 : Int)), some (aR 51 (0 : Int)), some (aI i), some (aI (oo.1)), some (aI r), o7]) (st' := [aI (0 : Int)]) (S' := S2) rfl ?_
          refine ez_iret rfl rfl rfl (Or.inr ⟨rfl, (by decide)⟩) ?_
          exfalso; omega
      · refine ez_s0 2 (pc' := 817) (ls' := [some (aR 70 (0 : Int)), some (aR 0 (0 : Int)), some (aR 20 (0 : Int)), some (aR 51 (0 : Int)), some (aI i), some (aI (oo.1)), some (aI r), o7]) (st' := [aL (1 : Int), aL (S2 51 0 0)]) (S' := S2) rfl ?_
        refine ez_lif rfl rfl 823 rfl (rgL hg3 (t := 51) (i := (0 : Int)) (q := (0 : Int)) (by omega : 0 ≤ (0 : Int) ∧ (0 : Int) < 1) (by omega) rfl) ⟨by decide, by decide⟩ (fun (g817 : (S2 51 0 0) = (1 : Int)) => ?_) (fun (g817 : ¬ ((S2 51 0 0) = (1 : Int))) => ?_)
        · refine ez_s0 1 (pc' := 1789) (ls' := [some (aR 70 (0 : Int)), some (aR 0 (0 : Int)), some (aR 20 (0 : Int)), some (aR 51 (0 : Int)), some (aI i), some (aI (oo.1)), some (aI r), o7]) (st' := []) (S' := S2) rfl ?_
          exact hk oo.2.1 S2 sz1 sl1 _ _ _ hci (j1.fd q2) q1 (by omega) (by omega)
        · refine ez_s0 1 (pc' := 822) (ls' := [some (aR 70 (0 : Int)), some (aR 0 (0 : Int)), some (aR 20 (0 : Int)), some (aR 51 (0 : Int)), some (aI i), some (aI (oo.1)), some (aI r), o7]) (st' := [aI (0 : Int)]) (S' := S2) rfl ?_
          refine ez_iret rfl rfl rfl (Or.inr ⟨rfl, (by decide)⟩) ?_
          exfalso; omega
  · refine ez_s0 1 (pc' := 798) (ls' := [some (aR 70 (0 : Int)), some (aR 0 (0 : Int)), some (aR 20 (0 : Int)), some (aR 51 (0 : Int)), some (aI i), some (aI (oo.1)), some (aI r), o7]) (st' := [aI (0 : Int)]) (S' := S2) rfl ?_
    refine ez_iret rfl rfl rfl (Or.inr ⟨rfl, (by decide)⟩) ?_
    exfalso; omega
theorem lawCarry {G : Gw} {S : Sg} {sz sl k : Nat} {Q : ZQ} {A : Sg} {i : Int} {o5 o6 o7 : Option AV} (hi : 0 ≤ i ∧ i + 9 ≤ (G.xl : Int)) (hx : G.xl ≤ 4608) (hA : CI A) (hL : Lk A S) (hR : RR A S) (hza : sz + 2 ≤ G.b0 + mm_mxC) (hla : sl + 12 ≤ mm_mxS) (hk : ∀ (A' S' : Sg) (sz' sl' : Nat) (o5 o6 o7 : Option AV), CI A' → Lk A' S' → RR A' S' → sz' ≤ sz + 1 → sl' ≤ sl + 6 → Ez G 124 1789 [some (aR 70 (0 : Int)), some (aR 0 (0 : Int)), some (aR 20 (0 : Int)), some (aR 51 (0 : Int)), some (aI i), o5, o6, o7] [] S' sz' sl' (k + 10) Q) : Ez G 124 826 [some (aR 70 (0 : Int)), some (aR 0 (0 : Int)), some (aR 20 (0 : Int)), some (aR 51 (0 : Int)), some (aI i), o5, o6, o7] [] S sz sl (k + 10) Q := by
  refine ez_rg (fun hg1 => ?_)
  refine ez_sg 6 (p := 0 ≤ (i + 1) ∧ (i + 1) < (G.xl : Int)) (pc' := 833) (ls' := [some (aR 70 (0 : Int)), some (aR 0 (0 : Int)), some (aR 20 (0 : Int)), some (aR 51 (0 : Int)), some (aI i), o5, o6, o7]) (st' := [aI (scV G (i + 1)), aR 0 (0 : Int)]) (S' := S) rfl (by omega) ?_
  refine ez_s0 1 (pc' := 834) (ls' := [some (aR 70 (0 : Int)), some (aR 0 (0 : Int)), some (aR 20 (0 : Int)), some (aR 51 (0 : Int)), some (aI i), o5, o6, o7]) (st' := [aR 51 (0 : Int), aI (scV G (i + 1)), aR 0 (0 : Int)]) (S' := S) rfl ?_
  refine ez_callZ rfl rfl [aR 0 (0 : Int), aI (scV G (i + 1)), aR 51 (0 : Int)] [] rfl rfl (Nat.le_of_ble_eq_true rfl) (Nat.le_of_ble_eq_true rfl) (Nat.le_of_ble_eq_true rfl) ?_
  refine zCarry (A := A) hL hA (by omega) (by omega) (m := (scV G (i + 1))) (r32_of _) (fun S1 sz1 sl1 j1 j2 j3 j4 j5 => ⟨_, rfl, ?_⟩)
  have hci : CI (opCarry A (scV G (i + 1))).2.1 := opCarry_ci hA
  generalize hop : opCarry A (scV G (i + 1)) = oo at j1 j3 hci ⊢
  have hz : sz1 + 1 ≤ G.b0 + mm_mxC := by omega
  have hl : sl1 + 6 ≤ mm_mxS := by omega
  show Ez G 124 837 [some (aR 70 (0 : Int)), some (aR 0 (0 : Int)), some (aR 20 (0 : Int)), some (aR 51 (0 : Int)), some (aI i), o5, o6, o7] [aI (oo.1)] S1 _ _ _ _
  refine ez_rg (fun hg2 => ?_)
  refine ez_s0 6 (pc' := 845) (ls' := [some (aR 70 (0 : Int)), some (aR 0 (0 : Int)), some (aR 20 (0 : Int)), some (aR 51 (0 : Int)), some (aI i), some (aI (oo.1)), o6, o7]) (st' := [aI (i + 1), aR 70 (0 : Int), aR 20 (0 : Int)]) (S' := S1) rfl ?_
  refine ez_sg 1 (p := 0 ≤ (i + 1) ∧ (i + 1) < (G.xl : Int)) (pc' := 846) (ls' := [some (aR 70 (0 : Int)), some (aR 0 (0 : Int)), some (aR 20 (0 : Int)), some (aR 51 (0 : Int)), some (aI i), some (aI (oo.1)), o6, o7]) (st' := [aI (scV G (i + 1)), aR 20 (0 : Int)]) (S' := S1) rfl (by omega) ?_
  refine ez_callV rfl rfl 20 (0 : Int) [aI (scV G (i + 1))] [] rfl rfl rfl rfl (Nat.le_of_ble_eq_true rfl) (Nat.le_of_ble_eq_true rfl) (Nat.le_of_ble_eq_true rfl) hz hl ?_
  refine qCarry (S := S1) (A := A) hA (hR.fq j2) (m := (scV G (i + 1))) (r32_of _) (fun S2 r q1 q2 q3 q4 q5 => ?_)
  rw [hop] at q1 q3 q5
  have e51 : S2 51 0 0 = S1 51 0 0 := by rw [q2 51 (Or.inr rfl)]
  show Ez G 124 849 [some (aR 70 (0 : Int)), some (aR 0 (0 : Int)), some (aR 20 (0 : Int)), some (aR 51 (0 : Int)), some (aI i), some (aI (oo.1)), o6, o7] [aI r] S2 _ _ _ _
  refine ez_rg (fun hg3 => ?_)
  have hoc : r32 oo.1 := by
    rw [← q3]
    exact rgI hg3 (t := 20) (i := (0 : Int)) (q := (0 : Int)) (by omega : 0 ≤ (0 : Int) ∧ (0 : Int) < 1) (by omega) rfl
  refine ez_s0 2 (pc' := 852) (ls' := [some (aR 70 (0 : Int)), some (aR 0 (0 : Int)), some (aR 20 (0 : Int)), some (aR 51 (0 : Int)), some (aI i), some (aI (oo.1)), some (aI r), o7]) (st' := [aR 20 (0 : Int)]) (S' := S2) rfl ?_
  refine ez_callV rfl rfl 20 (0 : Int) [] [] rfl rfl rfl rfl (Nat.le_of_ble_eq_true rfl) (Nat.le_of_ble_eq_true rfl) (Nat.le_of_ble_eq_true rfl) hz hl ?_
  refine n15 (S := S2) ?_
  show Ez G 124 855 [some (aR 70 (0 : Int)), some (aR 0 (0 : Int)), some (aR 20 (0 : Int)), some (aR 51 (0 : Int)), some (aI i), some (aI (oo.1)), some (aI r), o7] [aI (S2 20 0 0)] S2 _ _ _ _
  refine ez_s0 1 (pc' := 857) (ls' := [some (aR 70 (0 : Int)), some (aR 0 (0 : Int)), some (aR 20 (0 : Int)), some (aR 51 (0 : Int)), some (aI i), some (aI (oo.1)), some (aI r), o7]) (st' := [aI (oo.1), aI (S2 20 0 0)]) (S' := S2) rfl ?_
  refine ez_icmp rfl 862 rfl (rgI hg3 (t := 20) (i := (0 : Int)) (q := (0 : Int)) (by omega : 0 ≤ (0 : Int) ∧ (0 : Int) < 1) (by omega) rfl) hoc (fun (g857 : (S2 20 0 0) = (oo.1)) => ?_) (fun (g857 : ¬ ((S2 20 0 0) = (oo.1))) => ?_)
  · refine ez_s0 1 (pc' := 864) (ls' := [some (aR 70 (0 : Int)), some (aR 0 (0 : Int)), some (aR 20 (0 : Int)), some (aR 51 (0 : Int)), some (aI i), some (aI (oo.1)), some (aI r), o7]) (st' := [aI (oo.1)]) (S' := S2) rfl ?_
    refine ez_if rfl 879 rfl hoc (fun (g864 : ¬ (oo.1) = (0 : Int)) => ?_) (fun (g864 : ¬ (¬ (oo.1) = (0 : Int))) => ?_)
    · refine ez_s0 1 (pc' := 1789) (ls' := [some (aR 70 (0 : Int)), some (aR 0 (0 : Int)), some (aR 20 (0 : Int)), some (aR 51 (0 : Int)), some (aI i), some (aI (oo.1)), some (aI r), o7]) (st' := []) (S' := S2) rfl ?_
      exact hk oo.2.1 S2 sz1 sl1 _ _ _ hci (j1.fd q2) q1 (by omega) (by omega)
    · refine ez_sg 5 (p := (((0 : Int) = 0) ∧ (0 ≤ (0 : Int) ∧ (0 : Int) < 1)) ∧ (r32 r)) (pc' := 873) (ls' := [some (aR 70 (0 : Int)), some (aR 0 (0 : Int)), some (aR 20 (0 : Int)), some (aR 51 (0 : Int)), some (aI i), some (aI (oo.1)), some (aI r), o7]) (st' := [aL r, aL (S2 51 0 0)]) (S' := S2) rfl ⟨⟨rfl, (by omega)⟩, ⟨by have := q4.1; omega, by have := q4.2; omega⟩⟩ ?_
      refine ez_lif rfl rfl 879 rfl (rgL hg3 (t := 51) (i := (0 : Int)) (q := (0 : Int)) (by omega : 0 ≤ (0 : Int) ∧ (0 : Int) < 1) (by omega) rfl) ⟨by have := q4.1; omega, by have := q4.2; omega⟩ (fun (g873 : (S2 51 0 0) = r) => ?_) (fun (g873 : ¬ ((S2 51 0 0) = r)) => ?_)
      · refine ez_s0 1 (pc' := 1789) (ls' := [some (aR 70 (0 : Int)), some (aR 0 (0 : Int)), some (aR 20 (0 : Int)), some (aR 51 (0 : Int)), some (aI i), some (aI (oo.1)), some (aI r), o7]) (st' := []) (S' := S2) rfl ?_
        exact hk oo.2.1 S2 sz1 sl1 _ _ _ hci (j1.fd q2) q1 (by omega) (by omega)
      · refine ez_s0 1 (pc' := 878) (ls' := [some (aR 70 (0 : Int)), some (aR 0 (0 : Int)), some (aR 20 (0 : Int)), some (aR 51 (0 : Int)), some (aI i), some (aI (oo.1)), some (aI r), o7]) (st' := [aI (0 : Int)]) (S' := S2) rfl ?_
        refine ez_iret rfl rfl rfl (Or.inr ⟨rfl, (by decide)⟩) ?_
        exfalso; omega
  · refine ez_s0 1 (pc' := 861) (ls' := [some (aR 70 (0 : Int)), some (aR 0 (0 : Int)), some (aR 20 (0 : Int)), some (aR 51 (0 : Int)), some (aI i), some (aI (oo.1)), some (aI r), o7]) (st' := [aI (0 : Int)]) (S' := S2) rfl ?_
    refine ez_iret rfl rfl rfl (Or.inr ⟨rfl, (by decide)⟩) ?_
    exfalso; omega
theorem lawTold {G : Gw} {S : Sg} {sz sl k : Nat} {Q : ZQ} {A : Sg} {i : Int} {o5 o6 o7 : Option AV} (hi : 0 ≤ i ∧ i + 9 ≤ (G.xl : Int)) (hx : G.xl ≤ 4608) (hA : CI A) (hL : Lk A S) (hR : RR A S) (hza : sz + 2 ≤ G.b0 + mm_mxC) (hla : sl + 12 ≤ mm_mxS) (hk : ∀ (A' S' : Sg) (sz' sl' : Nat) (o5 o6 o7 : Option AV), CI A' → Lk A' S' → RR A' S' → sz' ≤ sz + 1 → sl' ≤ sl + 6 → Ez G 124 1789 [some (aR 70 (0 : Int)), some (aR 0 (0 : Int)), some (aR 20 (0 : Int)), some (aR 51 (0 : Int)), some (aI i), o5, o6, o7] [] S' sz' sl' (k + 10) Q) : Ez G 124 882 [some (aR 70 (0 : Int)), some (aR 0 (0 : Int)), some (aR 20 (0 : Int)), some (aR 51 (0 : Int)), some (aI i), o5, o6, o7] [] S sz sl (k + 10) Q := by
  have hz : sz + 1 ≤ G.b0 + mm_mxC := by omega
  have hl : sl + 6 ≤ mm_mxS := by omega
  refine ez_rg (fun hg1 => ?_)
  refine ez_sg 6 (p := 0 ≤ (i + 1) ∧ (i + 1) < (G.xl : Int)) (pc' := 889) (ls' := [some (aR 70 (0 : Int)), some (aR 0 (0 : Int)), some (aR 20 (0 : Int)), some (aR 51 (0 : Int)), some (aI i), o5, o6, o7]) (st' := [aI (scV G (i + 1)), aR 0 (0 : Int)]) (S' := S) rfl (by omega) ?_
  refine ez_callV rfl rfl 0 (0 : Int) [aI (scV G (i + 1))] [] rfl rfl rfl rfl (Nat.le_of_ble_eq_true rfl) (Nat.le_of_ble_eq_true rfl) (Nat.le_of_ble_eq_true rfl) hz hl ?_
  refine m74 (S := S) (kk := (scV G (i + 1))) (r32_of _) ?_
  have et : nthF (bt (S 0 0 8)) 60 0 (scV G (i + 1)) = (opTold A (scV G (i + 1))).2.2 := by
    rw [hL 0 (by decide), told_eq hA]
    rfl
  have hnb := nthF_b (bt (S 0 0 8)) 60 0 (scV G (i + 1)) (by decide)
  show Ez G 124 892 [some (aR 70 (0 : Int)), some (aR 0 (0 : Int)), some (aR 20 (0 : Int)), some (aR 51 (0 : Int)), some (aI i), o5, o6, o7] [aI (nthF (bt (S 0 0 8)) 60 0 (scV G (i + 1)))] S _ _ _ _
  refine ez_sg 6 (p := 0 ≤ (i + 1) ∧ (i + 1) < (G.xl : Int)) (pc' := 899) (ls' := [some (aR 70 (0 : Int)), some (aR 0 (0 : Int)), some (aR 20 (0 : Int)), some (aR 51 (0 : Int)), some (aI i), o5, o6, o7]) (st' := [aI (scV G (i + 1)), aR 20 (0 : Int), aI (nthF (bt (S 0 0 8)) 60 0 (scV G (i + 1)))]) (S' := S) rfl (by omega) ?_
  refine ez_callV rfl rfl 20 (0 : Int) [aI (scV G (i + 1))] [aI (nthF (bt (S 0 0 8)) 60 0 (scV G (i + 1)))] rfl rfl rfl rfl (Nat.le_of_ble_eq_true rfl) (Nat.le_of_ble_eq_true rfl) (Nat.le_of_ble_eq_true rfl) hz hl ?_
  refine qTold (S := S) (A := A) hA hR (kk := (scV G (i + 1))) (r32_of _) (fun S2 r q1 q2 q3 q4 q5 => ?_)
  have q6 := q5 rfl
  show Ez G 124 902 [some (aR 70 (0 : Int)), some (aR 0 (0 : Int)), some (aR 20 (0 : Int)), some (aR 51 (0 : Int)), some (aI i), o5, o6, o7] [aI r, aI (nthF (bt (S 0 0 8)) 60 0 (scV G (i + 1)))] S2 _ _ _ _
  refine ez_rg (fun hg2 => ?_)
  refine ez_icmp rfl 1789 rfl ⟨by omega, by omega⟩ ⟨by have := q4.1; omega, by have := q4.2; omega⟩ (fun (g902 : (nthF (bt (S 0 0 8)) 60 0 (scV G (i + 1))) = r) => ?_) (fun (g902 : ¬ ((nthF (bt (S 0 0 8)) 60 0 (scV G (i + 1))) = r)) => ?_)
  · exact hk A S2 sz sl _ _ _ hA (hL.fd q2) q1 (by omega) (by omega)
  · refine ez_s0 1 (pc' := 906) (ls' := [some (aR 70 (0 : Int)), some (aR 0 (0 : Int)), some (aR 20 (0 : Int)), some (aR 51 (0 : Int)), some (aI i), o5, o6, o7]) (st' := [aI (0 : Int)]) (S' := S2) rfl ?_
    refine ez_iret rfl rfl rfl (Or.inr ⟨rfl, (by decide)⟩) ?_
    exfalso; omega
theorem lawRoom {G : Gw} {S : Sg} {sz sl k : Nat} {Q : ZQ} {A : Sg} {i : Int} {o5 o6 o7 : Option AV} (hi : 0 ≤ i ∧ i + 9 ≤ (G.xl : Int)) (hx : G.xl ≤ 4608) (hA : CI A) (hL : Lk A S) (hR : RR A S) (hza : sz + 2 ≤ G.b0 + mm_mxC) (hla : sl + 12 ≤ mm_mxS) (hk : ∀ (A' S' : Sg) (sz' sl' : Nat) (o5 o6 o7 : Option AV), CI A' → Lk A' S' → RR A' S' → sz' ≤ sz + 1 → sl' ≤ sl + 6 → Ez G 124 1789 [some (aR 70 (0 : Int)), some (aR 0 (0 : Int)), some (aR 20 (0 : Int)), some (aR 51 (0 : Int)), some (aI i), o5, o6, o7] [] S' sz' sl' (k + 10) Q) : Ez G 124 907 [some (aR 70 (0 : Int)), some (aR 0 (0 : Int)), some (aR 20 (0 : Int)), some (aR 51 (0 : Int)), some (aI i), o5, o6, o7] [] S sz sl (k + 10) Q := by
  refine ez_rg (fun hg1 => ?_)
  refine ez_sg 6 (p := 0 ≤ (i + 1) ∧ (i + 1) < (G.xl : Int)) (pc' := 914) (ls' := [some (aR 70 (0 : Int)), some (aR 0 (0 : Int)), some (aR 20 (0 : Int)), some (aR 51 (0 : Int)), some (aI i), o5, o6, o7]) (st' := [aI (scV G (i + 1)), aR 0 (0 : Int)]) (S' := S) rfl (by omega) ?_
  refine ez_sg 6 (p := r32 (scV G (i + 1))) (pc' := 922) (ls' := [some (aR 70 (0 : Int)), some (aR 0 (0 : Int)), some (aR 20 (0 : Int)), some (aR 51 (0 : Int)), some (aI i), o5, o6, o7]) (st' := [aI (2 : Int), aI i, aR 70 (0 : Int), aL (lShl (scV G (i + 1)) (32 : Int)), aR 0 (0 : Int)]) (S' := S) rfl (r32_of _) ?_
  refine ez_sg 6 (p := (0 ≤ (i + 2) ∧ (i + 2) < (G.xl : Int)) ∧ (r32 (scV G (i + 2)))) (pc' := 930) (ls' := [some (aR 70 (0 : Int)), some (aR 0 (0 : Int)), some (aR 20 (0 : Int)), some (aR 51 (0 : Int)), some (aI i), o5, o6, o7]) (st' := [aL (lOr (lShl (scV G (i + 1)) (32 : Int)) (lAnd (scV G (i + 2)) (4294967295 : Int))), aR 0 (0 : Int)]) (S' := S) rfl ⟨(by omega), (r32_of _)⟩ ?_
  refine ez_sg 6 (p := (0 ≤ (i + 3) ∧ (i + 3) < (G.xl : Int)) ∧ (r32 (scV G (i + 3)))) (pc' := 937) (ls' := [some (aR 70 (0 : Int)), some (aR 0 (0 : Int)), some (aR 20 (0 : Int)), some (aR 51 (0 : Int)), some (aI i), o5, o6, o7]) (st' := [aL (scV G (i + 3)), aL (lOr (lShl (scV G (i + 1)) (32 : Int)) (lAnd (scV G (i + 2)) (4294967295 : Int))), aR 0 (0 : Int)]) (S' := S) rfl ⟨(by omega), (r32_of _)⟩ ?_
  refine ez_s0 6 (pc' := 945) (ls' := [some (aR 70 (0 : Int)), some (aR 0 (0 : Int)), some (aR 20 (0 : Int)), some (aR 51 (0 : Int)), some (aI i), o5, o6, o7]) (st' := [aI (i + 4), aR 70 (0 : Int), aL (lShl (scV G (i + 3)) (32 : Int)), aL (lOr (lShl (scV G (i + 1)) (32 : Int)) (lAnd (scV G (i + 2)) (4294967295 : Int))), aR 0 (0 : Int)]) (S' := S) rfl ?_
  refine ez_sg 6 (p := (0 ≤ (i + 4) ∧ (i + 4) < (G.xl : Int)) ∧ (r32 (scV G (i + 4)))) (pc' := 953) (ls' := [some (aR 70 (0 : Int)), some (aR 0 (0 : Int)), some (aR 20 (0 : Int)), some (aR 51 (0 : Int)), some (aI i), o5, o6, o7]) (st' := [aR 70 (0 : Int), aL (lOr (lShl (scV G (i + 3)) (32 : Int)) (lAnd (scV G (i + 4)) (4294967295 : Int))), aL (lOr (lShl (scV G (i + 1)) (32 : Int)) (lAnd (scV G (i + 2)) (4294967295 : Int))), aR 0 (0 : Int)]) (S' := S) rfl ⟨(by omega), (r32_of _)⟩ ?_
  refine ez_sg 6 (p := (0 ≤ (i + 5) ∧ (i + 5) < (G.xl : Int)) ∧ (r32 (scV G (i + 5)))) (pc' := 961) (ls' := [some (aR 70 (0 : Int)), some (aR 0 (0 : Int)), some (aR 20 (0 : Int)), some (aR 51 (0 : Int)), some (aI i), o5, o6, o7]) (st' := [aI (32 : Int), aL (scV G (i + 5)), aL (lOr (lShl (scV G (i + 3)) (32 : Int)) (lAnd (scV G (i + 4)) (4294967295 : Int))), aL (lOr (lShl (scV G (i + 1)) (32 : Int)) (lAnd (scV G (i + 2)) (4294967295 : Int))), aR 0 (0 : Int)]) (S' := S) rfl ⟨(by omega), (r32_of _)⟩ ?_
  refine ez_sg 6 (p := 0 ≤ (i + 6) ∧ (i + 6) < (G.xl : Int)) (pc' := 969) (ls' := [some (aR 70 (0 : Int)), some (aR 0 (0 : Int)), some (aR 20 (0 : Int)), some (aR 51 (0 : Int)), some (aI i), o5, o6, o7]) (st' := [aI (scV G (i + 6)), aL (lShl (scV G (i + 5)) (32 : Int)), aL (lOr (lShl (scV G (i + 3)) (32 : Int)) (lAnd (scV G (i + 4)) (4294967295 : Int))), aL (lOr (lShl (scV G (i + 1)) (32 : Int)) (lAnd (scV G (i + 2)) (4294967295 : Int))), aR 0 (0 : Int)]) (S' := S) rfl (by omega) ?_
  refine ez_sg 6 (p := r32 (scV G (i + 6))) (pc' := 978) (ls' := [some (aR 70 (0 : Int)), some (aR 0 (0 : Int)), some (aR 20 (0 : Int)), some (aR 51 (0 : Int)), some (aI i), o5, o6, o7]) (st' := [aI i, aR 70 (0 : Int), aL (lOr (lShl (scV G (i + 5)) (32 : Int)) (lAnd (scV G (i + 6)) (4294967295 : Int))), aL (lOr (lShl (scV G (i + 3)) (32 : Int)) (lAnd (scV G (i + 4)) (4294967295 : Int))), aL (lOr (lShl (scV G (i + 1)) (32 : Int)) (lAnd (scV G (i + 2)) (4294967295 : Int))), aR 0 (0 : Int)]) (S' := S) rfl (r32_of _) ?_
  refine ez_sg 6 (p := (0 ≤ (i + 7) ∧ (i + 7) < (G.xl : Int)) ∧ (r32 (scV G (i + 7)))) (pc' := 986) (ls' := [some (aR 70 (0 : Int)), some (aR 0 (0 : Int)), some (aR 20 (0 : Int)), some (aR 51 (0 : Int)), some (aI i), o5, o6, o7]) (st' := [aL (lShl (scV G (i + 7)) (32 : Int)), aL (lOr (lShl (scV G (i + 5)) (32 : Int)) (lAnd (scV G (i + 6)) (4294967295 : Int))), aL (lOr (lShl (scV G (i + 3)) (32 : Int)) (lAnd (scV G (i + 4)) (4294967295 : Int))), aL (lOr (lShl (scV G (i + 1)) (32 : Int)) (lAnd (scV G (i + 2)) (4294967295 : Int))), aR 0 (0 : Int)]) (S' := S) rfl ⟨(by omega), (r32_of _)⟩ ?_
  refine ez_sg 6 (p := (0 ≤ (i + 8) ∧ (i + 8) < (G.xl : Int)) ∧ (r32 (scV G (i + 8)))) (pc' := 994) (ls' := [some (aR 70 (0 : Int)), some (aR 0 (0 : Int)), some (aR 20 (0 : Int)), some (aR 51 (0 : Int)), some (aI i), o5, o6, o7]) (st' := [aL (scV G (i + 8)), aL (lShl (scV G (i + 7)) (32 : Int)), aL (lOr (lShl (scV G (i + 5)) (32 : Int)) (lAnd (scV G (i + 6)) (4294967295 : Int))), aL (lOr (lShl (scV G (i + 3)) (32 : Int)) (lAnd (scV G (i + 4)) (4294967295 : Int))), aL (lOr (lShl (scV G (i + 1)) (32 : Int)) (lAnd (scV G (i + 2)) (4294967295 : Int))), aR 0 (0 : Int)]) (S' := S) rfl ⟨(by omega), (r32_of _)⟩ ?_
  refine ez_s0 4 (pc' := 1000) (ls' := [some (aR 70 (0 : Int)), some (aR 0 (0 : Int)), some (aR 20 (0 : Int)), some (aR 51 (0 : Int)), some (aI i), o5, o6, o7]) (st' := [aR 51 (0 : Int), aL (lOr (lShl (scV G (i + 7)) (32 : Int)) (lAnd (scV G (i + 8)) (4294967295 : Int))), aL (lOr (lShl (scV G (i + 5)) (32 : Int)) (lAnd (scV G (i + 6)) (4294967295 : Int))), aL (lOr (lShl (scV G (i + 3)) (32 : Int)) (lAnd (scV G (i + 4)) (4294967295 : Int))), aL (lOr (lShl (scV G (i + 1)) (32 : Int)) (lAnd (scV G (i + 2)) (4294967295 : Int))), aR 0 (0 : Int)]) (S' := S) rfl ?_
  refine ez_callZ rfl rfl [aR 0 (0 : Int), aL (lOr (lShl (scV G (i + 1)) (32 : Int)) (lAnd (scV G (i + 2)) (4294967295 : Int))), aL (lOr (lShl (scV G (i + 3)) (32 : Int)) (lAnd (scV G (i + 4)) (4294967295 : Int))), aL (lOr (lShl (scV G (i + 5)) (32 : Int)) (lAnd (scV G (i + 6)) (4294967295 : Int))), aL (lOr (lShl (scV G (i + 7)) (32 : Int)) (lAnd (scV G (i + 8)) (4294967295 : Int))), aR 51 (0 : Int)] [] rfl rfl (Nat.le_of_ble_eq_true rfl) (Nat.le_of_ble_eq_true rfl) (Nat.le_of_ble_eq_true rfl) ?_
  refine zRoom (A := A) hL hA (by omega) (by omega) (aa := (lOr (lShl (scV G (i + 1)) (32 : Int)) (lAnd (scV G (i + 2)) (4294967295 : Int)))) (bb := (lOr (lShl (scV G (i + 3)) (32 : Int)) (lAnd (scV G (i + 4)) (4294967295 : Int)))) (cc := (lOr (lShl (scV G (i + 5)) (32 : Int)) (lAnd (scV G (i + 6)) (4294967295 : Int)))) (dd := (lOr (lShl (scV G (i + 7)) (32 : Int)) (lAnd (scV G (i + 8)) (4294967295 : Int)))) (r64_of _) (r64_of _) (r64_of _) (r64_of _) (fun S1 sz1 sl1 j1 j2 j3 j4 j5 => ⟨_, rfl, ?_⟩)
  have hci : CI (opRoom A (lOr (lShl (scV G (i + 1)) (32 : Int)) (lAnd (scV G (i + 2)) (4294967295 : Int))) (lOr (lShl (scV G (i + 3)) (32 : Int)) (lAnd (scV G (i + 4)) (4294967295 : Int))) (lOr (lShl (scV G (i + 5)) (32 : Int)) (lAnd (scV G (i + 6)) (4294967295 : Int))) (lOr (lShl (scV G (i + 7)) (32 : Int)) (lAnd (scV G (i + 8)) (4294967295 : Int)))).2.1 := opRoom_ci hA
  generalize hop : opRoom A (lOr (lShl (scV G (i + 1)) (32 : Int)) (lAnd (scV G (i + 2)) (4294967295 : Int))) (lOr (lShl (scV G (i + 3)) (32 : Int)) (lAnd (scV G (i + 4)) (4294967295 : Int))) (lOr (lShl (scV G (i + 5)) (32 : Int)) (lAnd (scV G (i + 6)) (4294967295 : Int))) (lOr (lShl (scV G (i + 7)) (32 : Int)) (lAnd (scV G (i + 8)) (4294967295 : Int))) = oo at j1 j3 hci ⊢
  have hz : sz1 + 1 ≤ G.b0 + mm_mxC := by omega
  have hl : sl1 + 6 ≤ mm_mxS := by omega
  show Ez G 124 1003 [some (aR 70 (0 : Int)), some (aR 0 (0 : Int)), some (aR 20 (0 : Int)), some (aR 51 (0 : Int)), some (aI i), o5, o6, o7] [aI (oo.1)] S1 _ _ _ _
  refine ez_rg (fun hg2 => ?_)
  refine ez_s0 6 (pc' := 1011) (ls' := [some (aR 70 (0 : Int)), some (aR 0 (0 : Int)), some (aR 20 (0 : Int)), some (aR 51 (0 : Int)), some (aI i), some (aI (oo.1)), o6, o7]) (st' := [aI (i + 1), aR 70 (0 : Int), aR 20 (0 : Int)]) (S' := S1) rfl ?_
  refine ez_sg 6 (p := (0 ≤ (i + 1) ∧ (i + 1) < (G.xl : Int)) ∧ (r32 (scV G (i + 1)))) (pc' := 1019) (ls' := [some (aR 70 (0 : Int)), some (aR 0 (0 : Int)), some (aR 20 (0 : Int)), some (aR 51 (0 : Int)), some (aI i), some (aI (oo.1)), o6, o7]) (st' := [aI i, aR 70 (0 : Int), aL (lShl (scV G (i + 1)) (32 : Int)), aR 20 (0 : Int)]) (S' := S1) rfl ⟨(by omega), (r32_of _)⟩ ?_
  refine ez_sg 6 (p := (0 ≤ (i + 2) ∧ (i + 2) < (G.xl : Int)) ∧ (r32 (scV G (i + 2)))) (pc' := 1027) (ls' := [some (aR 70 (0 : Int)), some (aR 0 (0 : Int)), some (aR 20 (0 : Int)), some (aR 51 (0 : Int)), some (aI i), some (aI (oo.1)), o6, o7]) (st' := [aL (lAnd (scV G (i + 2)) (4294967295 : Int)), aL (lShl (scV G (i + 1)) (32 : Int)), aR 20 (0 : Int)]) (S' := S1) rfl ⟨(by omega), (r32_of _)⟩ ?_
  refine ez_sg 6 (p := 0 ≤ (i + 3) ∧ (i + 3) < (G.xl : Int)) (pc' := 1034) (ls' := [some (aR 70 (0 : Int)), some (aR 0 (0 : Int)), some (aR 20 (0 : Int)), some (aR 51 (0 : Int)), some (aI i), some (aI (oo.1)), o6, o7]) (st' := [aI (scV G (i + 3)), aL (lOr (lShl (scV G (i + 1)) (32 : Int)) (lAnd (scV G (i + 2)) (4294967295 : Int))), aR 20 (0 : Int)]) (S' := S1) rfl (by omega) ?_
  refine ez_sg 6 (p := r32 (scV G (i + 3))) (pc' := 1042) (ls' := [some (aR 70 (0 : Int)), some (aR 0 (0 : Int)), some (aR 20 (0 : Int)), some (aR 51 (0 : Int)), some (aI i), some (aI (oo.1)), o6, o7]) (st' := [aI (4 : Int), aI i, aR 70 (0 : Int), aL (lShl (scV G (i + 3)) (32 : Int)), aL (lOr (lShl (scV G (i + 1)) (32 : Int)) (lAnd (scV G (i + 2)) (4294967295 : Int))), aR 20 (0 : Int)]) (S' := S1) rfl (r32_of _) ?_
  refine ez_sg 6 (p := (0 ≤ (i + 4) ∧ (i + 4) < (G.xl : Int)) ∧ (r32 (scV G (i + 4)))) (pc' := 1050) (ls' := [some (aR 70 (0 : Int)), some (aR 0 (0 : Int)), some (aR 20 (0 : Int)), some (aR 51 (0 : Int)), some (aI i), some (aI (oo.1)), o6, o7]) (st' := [aL (lOr (lShl (scV G (i + 3)) (32 : Int)) (lAnd (scV G (i + 4)) (4294967295 : Int))), aL (lOr (lShl (scV G (i + 1)) (32 : Int)) (lAnd (scV G (i + 2)) (4294967295 : Int))), aR 20 (0 : Int)]) (S' := S1) rfl ⟨(by omega), (r32_of _)⟩ ?_
  refine ez_sg 6 (p := (0 ≤ (i + 5) ∧ (i + 5) < (G.xl : Int)) ∧ (r32 (scV G (i + 5)))) (pc' := 1057) (ls' := [some (aR 70 (0 : Int)), some (aR 0 (0 : Int)), some (aR 20 (0 : Int)), some (aR 51 (0 : Int)), some (aI i), some (aI (oo.1)), o6, o7]) (st' := [aL (scV G (i + 5)), aL (lOr (lShl (scV G (i + 3)) (32 : Int)) (lAnd (scV G (i + 4)) (4294967295 : Int))), aL (lOr (lShl (scV G (i + 1)) (32 : Int)) (lAnd (scV G (i + 2)) (4294967295 : Int))), aR 20 (0 : Int)]) (S' := S1) rfl ⟨(by omega), (r32_of _)⟩ ?_
  refine ez_s0 6 (pc' := 1066) (ls' := [some (aR 70 (0 : Int)), some (aR 0 (0 : Int)), some (aR 20 (0 : Int)), some (aR 51 (0 : Int)), some (aI i), some (aI (oo.1)), o6, o7]) (st' := [aI (i + 6), aR 70 (0 : Int), aL (lShl (scV G (i + 5)) (32 : Int)), aL (lOr (lShl (scV G (i + 3)) (32 : Int)) (lAnd (scV G (i + 4)) (4294967295 : Int))), aL (lOr (lShl (scV G (i + 1)) (32 : Int)) (lAnd (scV G (i + 2)) (4294967295 : Int))), aR 20 (0 : Int)]) (S' := S1) rfl ?_
  refine ez_sg 6 (p := (0 ≤ (i + 6) ∧ (i + 6) < (G.xl : Int)) ∧ (r32 (scV G (i + 6)))) (pc' := 1074) (ls' := [some (aR 70 (0 : Int)), some (aR 0 (0 : Int)), some (aR 20 (0 : Int)), some (aR 51 (0 : Int)), some (aI i), some (aI (oo.1)), o6, o7]) (st' := [aR 70 (0 : Int), aL (lOr (lShl (scV G (i + 5)) (32 : Int)) (lAnd (scV G (i + 6)) (4294967295 : Int))), aL (lOr (lShl (scV G (i + 3)) (32 : Int)) (lAnd (scV G (i + 4)) (4294967295 : Int))), aL (lOr (lShl (scV G (i + 1)) (32 : Int)) (lAnd (scV G (i + 2)) (4294967295 : Int))), aR 20 (0 : Int)]) (S' := S1) rfl ⟨(by omega), (r32_of _)⟩ ?_
  refine ez_sg 6 (p := (0 ≤ (i + 7) ∧ (i + 7) < (G.xl : Int)) ∧ (r32 (scV G (i + 7)))) (pc' := 1083) (ls' := [some (aR 70 (0 : Int)), some (aR 0 (0 : Int)), some (aR 20 (0 : Int)), some (aR 51 (0 : Int)), some (aI i), some (aI (oo.1)), o6, o7]) (st' := [aI (32 : Int), aL (scV G (i + 7)), aL (lOr (lShl (scV G (i + 5)) (32 : Int)) (lAnd (scV G (i + 6)) (4294967295 : Int))), aL (lOr (lShl (scV G (i + 3)) (32 : Int)) (lAnd (scV G (i + 4)) (4294967295 : Int))), aL (lOr (lShl (scV G (i + 1)) (32 : Int)) (lAnd (scV G (i + 2)) (4294967295 : Int))), aR 20 (0 : Int)]) (S' := S1) rfl ⟨(by omega), (r32_of _)⟩ ?_
  refine ez_sg 6 (p := 0 ≤ (i + 8) ∧ (i + 8) < (G.xl : Int)) (pc' := 1091) (ls' := [some (aR 70 (0 : Int)), some (aR 0 (0 : Int)), some (aR 20 (0 : Int)), some (aR 51 (0 : Int)), some (aI i), some (aI (oo.1)), o6, o7]) (st' := [aI (scV G (i + 8)), aL (lShl (scV G (i + 7)) (32 : Int)), aL (lOr (lShl (scV G (i + 5)) (32 : Int)) (lAnd (scV G (i + 6)) (4294967295 : Int))), aL (lOr (lShl (scV G (i + 3)) (32 : Int)) (lAnd (scV G (i + 4)) (4294967295 : Int))), aL (lOr (lShl (scV G (i + 1)) (32 : Int)) (lAnd (scV G (i + 2)) (4294967295 : Int))), aR 20 (0 : Int)]) (S' := S1) rfl (by omega) ?_
  refine ez_sg 4 (p := r32 (scV G (i + 8))) (pc' := 1097) (ls' := [some (aR 70 (0 : Int)), some (aR 0 (0 : Int)), some (aR 20 (0 : Int)), some (aR 51 (0 : Int)), some (aI i), some (aI (oo.1)), o6, o7]) (st' := [aL (lOr (lShl (scV G (i + 7)) (32 : Int)) (lAnd (scV G (i + 8)) (4294967295 : Int))), aL (lOr (lShl (scV G (i + 5)) (32 : Int)) (lAnd (scV G (i + 6)) (4294967295 : Int))), aL (lOr (lShl (scV G (i + 3)) (32 : Int)) (lAnd (scV G (i + 4)) (4294967295 : Int))), aL (lOr (lShl (scV G (i + 1)) (32 : Int)) (lAnd (scV G (i + 2)) (4294967295 : Int))), aR 20 (0 : Int)]) (S' := S1) rfl (r32_of _) ?_
  refine ez_callV rfl rfl 20 (0 : Int) [aL (lOr (lShl (scV G (i + 1)) (32 : Int)) (lAnd (scV G (i + 2)) (4294967295 : Int))), aL (lOr (lShl (scV G (i + 3)) (32 : Int)) (lAnd (scV G (i + 4)) (4294967295 : Int))), aL (lOr (lShl (scV G (i + 5)) (32 : Int)) (lAnd (scV G (i + 6)) (4294967295 : Int))), aL (lOr (lShl (scV G (i + 7)) (32 : Int)) (lAnd (scV G (i + 8)) (4294967295 : Int)))] [] rfl rfl rfl rfl (Nat.le_of_ble_eq_true rfl) (Nat.le_of_ble_eq_true rfl) (Nat.le_of_ble_eq_true rfl) hz hl ?_
  refine qRoom (S := S1) (A := A) hA (hR.fq j2) (aa := (lOr (lShl (scV G (i + 1)) (32 : Int)) (lAnd (scV G (i + 2)) (4294967295 : Int)))) (bb := (lOr (lShl (scV G (i + 3)) (32 : Int)) (lAnd (scV G (i + 4)) (4294967295 : Int)))) (cc := (lOr (lShl (scV G (i + 5)) (32 : Int)) (lAnd (scV G (i + 6)) (4294967295 : Int)))) (dd := (lOr (lShl (scV G (i + 7)) (32 : Int)) (lAnd (scV G (i + 8)) (4294967295 : Int)))) (r64_of _) (r64_of _) (r64_of _) (r64_of _) (fun S2 r q1 q2 q3 q4 q5 => ?_)
  rw [hop] at q1 q3 q5
  have e51 : S2 51 0 0 = S1 51 0 0 := by rw [q2 51 (Or.inr rfl)]
  show Ez G 124 1100 [some (aR 70 (0 : Int)), some (aR 0 (0 : Int)), some (aR 20 (0 : Int)), some (aR 51 (0 : Int)), some (aI i), some (aI (oo.1)), o6, o7] [aI r] S2 _ _ _ _
  refine ez_rg (fun hg3 => ?_)
  have hoc : r32 oo.1 := by
    rw [← q3]
    exact rgI hg3 (t := 20) (i := (0 : Int)) (q := (0 : Int)) (by omega : 0 ≤ (0 : Int) ∧ (0 : Int) < 1) (by omega) rfl
  refine ez_s0 2 (pc' := 1103) (ls' := [some (aR 70 (0 : Int)), some (aR 0 (0 : Int)), some (aR 20 (0 : Int)), some (aR 51 (0 : Int)), some (aI i), some (aI (oo.1)), some (aI r), o7]) (st' := [aR 20 (0 : Int)]) (S' := S2) rfl ?_
  refine ez_callV rfl rfl 20 (0 : Int) [] [] rfl rfl rfl rfl (Nat.le_of_ble_eq_true rfl) (Nat.le_of_ble_eq_true rfl) (Nat.le_of_ble_eq_true rfl) hz hl ?_
  refine n15 (S := S2) ?_
  show Ez G 124 1106 [some (aR 70 (0 : Int)), some (aR 0 (0 : Int)), some (aR 20 (0 : Int)), some (aR 51 (0 : Int)), some (aI i), some (aI (oo.1)), some (aI r), o7] [aI (S2 20 0 0)] S2 _ _ _ _
  refine ez_s0 1 (pc' := 1108) (ls' := [some (aR 70 (0 : Int)), some (aR 0 (0 : Int)), some (aR 20 (0 : Int)), some (aR 51 (0 : Int)), some (aI i), some (aI (oo.1)), some (aI r), o7]) (st' := [aI (oo.1), aI (S2 20 0 0)]) (S' := S2) rfl ?_
  refine ez_icmp rfl 1113 rfl (rgI hg3 (t := 20) (i := (0 : Int)) (q := (0 : Int)) (by omega : 0 ≤ (0 : Int) ∧ (0 : Int) < 1) (by omega) rfl) hoc (fun (g1108 : (S2 20 0 0) = (oo.1)) => ?_) (fun (g1108 : ¬ ((S2 20 0 0) = (oo.1))) => ?_)
  · refine ez_s0 1 (pc' := 1115) (ls' := [some (aR 70 (0 : Int)), some (aR 0 (0 : Int)), some (aR 20 (0 : Int)), some (aR 51 (0 : Int)), some (aI i), some (aI (oo.1)), some (aI r), o7]) (st' := [aI (oo.1)]) (S' := S2) rfl ?_
    refine ez_if rfl 1130 rfl hoc (fun (g1115 : ¬ (oo.1) = (0 : Int)) => ?_) (fun (g1115 : ¬ (¬ (oo.1) = (0 : Int))) => ?_)
    · refine ez_s0 1 (pc' := 1789) (ls' := [some (aR 70 (0 : Int)), some (aR 0 (0 : Int)), some (aR 20 (0 : Int)), some (aR 51 (0 : Int)), some (aI i), some (aI (oo.1)), some (aI r), o7]) (st' := []) (S' := S2) rfl ?_
      exact hk oo.2.1 S2 sz1 sl1 _ _ _ hci (j1.fd q2) q1 (by omega) (by omega)
    · refine ez_sg 5 (p := (((0 : Int) = 0) ∧ (0 ≤ (0 : Int) ∧ (0 : Int) < 1)) ∧ (r32 r)) (pc' := 1124) (ls' := [some (aR 70 (0 : Int)), some (aR 0 (0 : Int)), some (aR 20 (0 : Int)), some (aR 51 (0 : Int)), some (aI i), some (aI (oo.1)), some (aI r), o7]) (st' := [aL r, aL (S2 51 0 0)]) (S' := S2) rfl ⟨⟨rfl, (by omega)⟩, ⟨by have := q4.1; omega, by have := q4.2; omega⟩⟩ ?_
      refine ez_lif rfl rfl 1130 rfl (rgL hg3 (t := 51) (i := (0 : Int)) (q := (0 : Int)) (by omega : 0 ≤ (0 : Int) ∧ (0 : Int) < 1) (by omega) rfl) ⟨by have := q4.1; omega, by have := q4.2; omega⟩ (fun (g1124 : (S2 51 0 0) = r) => ?_) (fun (g1124 : ¬ ((S2 51 0 0) = r)) => ?_)
      · refine ez_s0 1 (pc' := 1789) (ls' := [some (aR 70 (0 : Int)), some (aR 0 (0 : Int)), some (aR 20 (0 : Int)), some (aR 51 (0 : Int)), some (aI i), some (aI (oo.1)), some (aI r), o7]) (st' := []) (S' := S2) rfl ?_
        exact hk oo.2.1 S2 sz1 sl1 _ _ _ hci (j1.fd q2) q1 (by omega) (by omega)
      · refine ez_s0 1 (pc' := 1129) (ls' := [some (aR 70 (0 : Int)), some (aR 0 (0 : Int)), some (aR 20 (0 : Int)), some (aR 51 (0 : Int)), some (aI i), some (aI (oo.1)), some (aI r), o7]) (st' := [aI (0 : Int)]) (S' := S2) rfl ?_
        refine ez_iret rfl rfl rfl (Or.inr ⟨rfl, (by decide)⟩) ?_
        exfalso; omega
  · refine ez_s0 1 (pc' := 1112) (ls' := [some (aR 70 (0 : Int)), some (aR 0 (0 : Int)), some (aR 20 (0 : Int)), some (aR 51 (0 : Int)), some (aI i), some (aI (oo.1)), some (aI r), o7]) (st' := [aI (0 : Int)]) (S' := S2) rfl ?_
    refine ez_iret rfl rfl rfl (Or.inr ⟨rfl, (by decide)⟩) ?_
    exfalso; omega
theorem lawMemb {G : Gw} {S : Sg} {sz sl k : Nat} {Q : ZQ} {A : Sg} {i : Int} {o5 o6 o7 : Option AV} (hi : 0 ≤ i ∧ i + 9 ≤ (G.xl : Int)) (hx : G.xl ≤ 4608) (hA : CI A) (hL : Lk A S) (hR : RR A S) (hza : sz + 2 ≤ G.b0 + mm_mxC) (hla : sl + 12 ≤ mm_mxS) (hk : ∀ (A' S' : Sg) (sz' sl' : Nat) (o5 o6 o7 : Option AV), CI A' → Lk A' S' → RR A' S' → sz' ≤ sz + 1 → sl' ≤ sl + 6 → Ez G 124 1789 [some (aR 70 (0 : Int)), some (aR 0 (0 : Int)), some (aR 20 (0 : Int)), some (aR 51 (0 : Int)), some (aI i), o5, o6, o7] [] S' sz' sl' (k + 10) Q) : Ez G 124 1133 [some (aR 70 (0 : Int)), some (aR 0 (0 : Int)), some (aR 20 (0 : Int)), some (aR 51 (0 : Int)), some (aI i), o5, o6, o7] [] S sz sl (k + 10) Q := by
  refine ez_rg (fun hg1 => ?_)
  refine ez_sg 6 (p := 0 ≤ (i + 1) ∧ (i + 1) < (G.xl : Int)) (pc' := 1140) (ls' := [some (aR 70 (0 : Int)), some (aR 0 (0 : Int)), some (aR 20 (0 : Int)), some (aR 51 (0 : Int)), some (aI i), o5, o6, o7]) (st' := [aI (scV G (i + 1)), aR 0 (0 : Int)]) (S' := S) rfl (by omega) ?_
  refine ez_sg 6 (p := 0 ≤ (i + 2) ∧ (i + 2) < (G.xl : Int)) (pc' := 1147) (ls' := [some (aR 70 (0 : Int)), some (aR 0 (0 : Int)), some (aR 20 (0 : Int)), some (aR 51 (0 : Int)), some (aI i), o5, o6, o7]) (st' := [aR 51 (0 : Int), aI (scV G (i + 2)), aI (scV G (i + 1)), aR 0 (0 : Int)]) (S' := S) rfl (by omega) ?_
  refine ez_callZ rfl rfl [aR 0 (0 : Int), aI (scV G (i + 1)), aI (scV G (i + 2)), aR 51 (0 : Int)] [] rfl rfl (Nat.le_of_ble_eq_true rfl) (Nat.le_of_ble_eq_true rfl) (Nat.le_of_ble_eq_true rfl) ?_
  refine zMemb (A := A) hL hA (by omega) (by omega) (r := (scV G (i + 1))) (p := (scV G (i + 2))) (r32_of _) (r32_of _) (fun S1 sz1 sl1 j1 j2 j3 j4 j5 => ⟨_, rfl, ?_⟩)
  have hci : CI (opMemb A (scV G (i + 1)) (scV G (i + 2))).2.1 := opMemb_ci hA
  have hbv := opMemb_v (A := A) (r := (scV G (i + 1))) (p := (scV G (i + 2)))
  generalize hop : opMemb A (scV G (i + 1)) (scV G (i + 2)) = oo at j1 j3 hci hbv ⊢
  have hz : sz1 + 1 ≤ G.b0 + mm_mxC := by omega
  have hl : sl1 + 6 ≤ mm_mxS := by omega
  show Ez G 124 1150 [some (aR 70 (0 : Int)), some (aR 0 (0 : Int)), some (aR 20 (0 : Int)), some (aR 51 (0 : Int)), some (aI i), o5, o6, o7] [aI (oo.1)] S1 _ _ _ _
  refine ez_rg (fun hg2 => ?_)
  refine ez_s0 6 (pc' := 1158) (ls' := [some (aR 70 (0 : Int)), some (aR 0 (0 : Int)), some (aR 20 (0 : Int)), some (aR 51 (0 : Int)), some (aI i), some (aI (oo.1)), o6, o7]) (st' := [aI (i + 1), aR 70 (0 : Int), aR 20 (0 : Int)]) (S' := S1) rfl ?_
  refine ez_sg 6 (p := (0 ≤ (i + 1) ∧ (i + 1) < (G.xl : Int)) ∧ (0 ≤ (i + 2) ∧ (i + 2) < (G.xl : Int))) (pc' := 1165) (ls' := [some (aR 70 (0 : Int)), some (aR 0 (0 : Int)), some (aR 20 (0 : Int)), some (aR 51 (0 : Int)), some (aI i), some (aI (oo.1)), o6, o7]) (st' := [aI (scV G (i + 2)), aI (scV G (i + 1)), aR 20 (0 : Int)]) (S' := S1) rfl ⟨(by omega), (by omega)⟩ ?_
  refine ez_callV rfl rfl 20 (0 : Int) [aI (scV G (i + 1)), aI (scV G (i + 2))] [] rfl rfl rfl rfl (Nat.le_of_ble_eq_true rfl) (Nat.le_of_ble_eq_true rfl) (Nat.le_of_ble_eq_true rfl) hz hl ?_
  refine qMemb (S := S1) (A := A) hA (hR.fq j2) (r := (scV G (i + 1))) (p := (scV G (i + 2))) (r32_of _) (r32_of _) (fun S2 r q1 q2 q3 q4 q5 => ?_)
  rw [hop] at q1 q3 q5
  have e51 : S2 51 0 0 = S1 51 0 0 := by rw [q2 51 (Or.inr rfl)]
  show Ez G 124 1168 [some (aR 70 (0 : Int)), some (aR 0 (0 : Int)), some (aR 20 (0 : Int)), some (aR 51 (0 : Int)), some (aI i), some (aI (oo.1)), o6, o7] [aI r] S2 _ _ _ _
  refine ez_rg (fun hg3 => ?_)
  have hoc : r32 oo.1 := by
    rw [← q3]
    exact rgI hg3 (t := 20) (i := (0 : Int)) (q := (0 : Int)) (by omega : 0 ≤ (0 : Int) ∧ (0 : Int) < 1) (by omega) rfl
  refine ez_s0 2 (pc' := 1171) (ls' := [some (aR 70 (0 : Int)), some (aR 0 (0 : Int)), some (aR 20 (0 : Int)), some (aR 51 (0 : Int)), some (aI i), some (aI (oo.1)), some (aI r), o7]) (st' := [aR 20 (0 : Int)]) (S' := S2) rfl ?_
  refine ez_callV rfl rfl 20 (0 : Int) [] [] rfl rfl rfl rfl (Nat.le_of_ble_eq_true rfl) (Nat.le_of_ble_eq_true rfl) (Nat.le_of_ble_eq_true rfl) hz hl ?_
  refine n15 (S := S2) ?_
  show Ez G 124 1174 [some (aR 70 (0 : Int)), some (aR 0 (0 : Int)), some (aR 20 (0 : Int)), some (aR 51 (0 : Int)), some (aI i), some (aI (oo.1)), some (aI r), o7] [aI (S2 20 0 0)] S2 _ _ _ _
  refine ez_s0 1 (pc' := 1176) (ls' := [some (aR 70 (0 : Int)), some (aR 0 (0 : Int)), some (aR 20 (0 : Int)), some (aR 51 (0 : Int)), some (aI i), some (aI (oo.1)), some (aI r), o7]) (st' := [aI (oo.1), aI (S2 20 0 0)]) (S' := S2) rfl ?_
  refine ez_icmp rfl 1181 rfl (rgI hg3 (t := 20) (i := (0 : Int)) (q := (0 : Int)) (by omega : 0 ≤ (0 : Int) ∧ (0 : Int) < 1) (by omega) rfl) hoc (fun (g1176 : (S2 20 0 0) = (oo.1)) => ?_) (fun (g1176 : ¬ ((S2 20 0 0) = (oo.1))) => ?_)
  · refine ez_s0 1 (pc' := 1183) (ls' := [some (aR 70 (0 : Int)), some (aR 0 (0 : Int)), some (aR 20 (0 : Int)), some (aR 51 (0 : Int)), some (aI i), some (aI (oo.1)), some (aI r), o7]) (st' := [aI (oo.1)]) (S' := S2) rfl ?_
    refine ez_if rfl 1205 rfl hoc (fun (g1183 : ¬ (oo.1) = (0 : Int)) => ?_) (fun (g1183 : ¬ (¬ (oo.1) = (0 : Int))) => ?_)
    · refine ez_s0 1 (pc' := 1789) (ls' := [some (aR 70 (0 : Int)), some (aR 0 (0 : Int)), some (aR 20 (0 : Int)), some (aR 51 (0 : Int)), some (aI i), some (aI (oo.1)), some (aI r), o7]) (st' := []) (S' := S2) rfl ?_
      exact hk oo.2.1 S2 sz1 sl1 _ _ _ hci (j1.fd q2) q1 (by omega) (by omega)
    · refine ez_sg 4 (p := ((0 : Int) = 0) ∧ (0 ≤ (0 : Int) ∧ (0 : Int) < 1)) (pc' := 1191) (ls' := [some (aR 70 (0 : Int)), some (aR 0 (0 : Int)), some (aR 20 (0 : Int)), some (aR 51 (0 : Int)), some (aI i), some (aI (oo.1)), some (aI r), o7]) (st' := [aI r, aL (S2 51 0 0)]) (S' := S2) rfl ⟨rfl, (by omega)⟩ ?_
      refine ez_if rfl 1198 rfl ⟨by have := q4.1; omega, by have := q4.2; omega⟩ (fun (g1191 : r = (0 : Int)) => ?_) (fun (g1191 : ¬ (r = (0 : Int))) => ?_)
      · refine ez_s0 1 (pc' := 1199) (ls' := [some (aR 70 (0 : Int)), some (aR 0 (0 : Int)), some (aR 20 (0 : Int)), some (aR 51 (0 : Int)), some (aI i), some (aI (oo.1)), some (aI r), o7]) (st' := [aL (0 : Int), aL (S2 51 0 0)]) (S' := S2) rfl ?_
        refine ez_lif rfl rfl 1205 rfl (rgL hg3 (t := 51) (i := (0 : Int)) (q := (0 : Int)) (by omega : 0 ≤ (0 : Int) ∧ (0 : Int) < 1) (by omega) rfl) ⟨by decide, by decide⟩ (fun (g1199 : (S2 51 0 0) = (0 : Int)) => ?_) (fun (g1199 : ¬ ((S2 51 0 0) = (0 : Int))) => ?_)
        · refine ez_s0 1 (pc' := 1789) (ls' := [some (aR 70 (0 : Int)), some (aR 0 (0 : Int)), some (aR 20 (0 : Int)), some (aR 51 (0 : Int)), some (aI i), some (aI (oo.1)), some (aI r), o7]) (st' := []) (S' := S2) rfl ?_
          exact hk oo.2.1 S2 sz1 sl1 _ _ _ hci (j1.fd q2) q1 (by omega) (by omega)
        · refine ez_s0 1 (pc' := 1204) (ls' := [some (aR 70 (0 : Int)), some (aR 0 (0 : Int)), some (aR 20 (0 : Int)), some (aR 51 (0 : Int)), some (aI i), some (aI (oo.1)), some (aI r), o7]) (st' := [aI (0 : Int)]) (S' := S2) rfl ?_
          refine ez_iret rfl rfl rfl (Or.inr ⟨rfl, (by decide)⟩) ?_
          exfalso; omega
      · refine ez_s0 2 (pc' := 1199) (ls' := [some (aR 70 (0 : Int)), some (aR 0 (0 : Int)), some (aR 20 (0 : Int)), some (aR 51 (0 : Int)), some (aI i), some (aI (oo.1)), some (aI r), o7]) (st' := [aL (1 : Int), aL (S2 51 0 0)]) (S' := S2) rfl ?_
        refine ez_lif rfl rfl 1205 rfl (rgL hg3 (t := 51) (i := (0 : Int)) (q := (0 : Int)) (by omega : 0 ≤ (0 : Int) ∧ (0 : Int) < 1) (by omega) rfl) ⟨by decide, by decide⟩ (fun (g1199 : (S2 51 0 0) = (1 : Int)) => ?_) (fun (g1199 : ¬ ((S2 51 0 0) = (1 : Int))) => ?_)
        · refine ez_s0 1 (pc' := 1789) (ls' := [some (aR 70 (0 : Int)), some (aR 0 (0 : Int)), some (aR 20 (0 : Int)), some (aR 51 (0 : Int)), some (aI i), some (aI (oo.1)), some (aI r), o7]) (st' := []) (S' := S2) rfl ?_
          exact hk oo.2.1 S2 sz1 sl1 _ _ _ hci (j1.fd q2) q1 (by omega) (by omega)
        · refine ez_s0 1 (pc' := 1204) (ls' := [some (aR 70 (0 : Int)), some (aR 0 (0 : Int)), some (aR 20 (0 : Int)), some (aR 51 (0 : Int)), some (aI i), some (aI (oo.1)), some (aI r), o7]) (st' := [aI (0 : Int)]) (S' := S2) rfl ?_
          refine ez_iret rfl rfl rfl (Or.inr ⟨rfl, (by decide)⟩) ?_
          exfalso; omega
  · refine ez_s0 1 (pc' := 1180) (ls' := [some (aR 70 (0 : Int)), some (aR 0 (0 : Int)), some (aR 20 (0 : Int)), some (aR 51 (0 : Int)), some (aI i), some (aI (oo.1)), some (aI r), o7]) (st' := [aI (0 : Int)]) (S' := S2) rfl ?_
    refine ez_iret rfl rfl rfl (Or.inr ⟨rfl, (by decide)⟩) ?_
    exfalso; omega
theorem lawOuts {G : Gw} {S : Sg} {sz sl k : Nat} {Q : ZQ} {A : Sg} {i : Int} {o5 o6 o7 : Option AV} (hi : 0 ≤ i ∧ i + 9 ≤ (G.xl : Int)) (hx : G.xl ≤ 4608) (hA : CI A) (hL : Lk A S) (hR : RR A S) (hza : sz + 2 ≤ G.b0 + mm_mxC) (hla : sl + 12 ≤ mm_mxS) (hk : ∀ (A' S' : Sg) (sz' sl' : Nat) (o5 o6 o7 : Option AV), CI A' → Lk A' S' → RR A' S' → sz' ≤ sz + 1 → sl' ≤ sl + 6 → Ez G 124 1789 [some (aR 70 (0 : Int)), some (aR 0 (0 : Int)), some (aR 20 (0 : Int)), some (aR 51 (0 : Int)), some (aI i), o5, o6, o7] [] S' sz' sl' (k + 10) Q) : Ez G 124 1208 [some (aR 70 (0 : Int)), some (aR 0 (0 : Int)), some (aR 20 (0 : Int)), some (aR 51 (0 : Int)), some (aI i), o5, o6, o7] [] S sz sl (k + 10) Q := by
  refine ez_rg (fun hg1 => ?_)
  refine ez_sg 6 (p := 0 ≤ (i + 1) ∧ (i + 1) < (G.xl : Int)) (pc' := 1215) (ls' := [some (aR 70 (0 : Int)), some (aR 0 (0 : Int)), some (aR 20 (0 : Int)), some (aR 51 (0 : Int)), some (aI i), o5, o6, o7]) (st' := [aI (scV G (i + 1)), aR 0 (0 : Int)]) (S' := S) rfl (by omega) ?_
  refine ez_sg 6 (p := 0 ≤ (i + 2) ∧ (i + 2) < (G.xl : Int)) (pc' := 1222) (ls' := [some (aR 70 (0 : Int)), some (aR 0 (0 : Int)), some (aR 20 (0 : Int)), some (aR 51 (0 : Int)), some (aI i), o5, o6, o7]) (st' := [aR 51 (0 : Int), aI (scV G (i + 2)), aI (scV G (i + 1)), aR 0 (0 : Int)]) (S' := S) rfl (by omega) ?_
  refine ez_callZ rfl rfl [aR 0 (0 : Int), aI (scV G (i + 1)), aI (scV G (i + 2)), aR 51 (0 : Int)] [] rfl rfl (Nat.le_of_ble_eq_true rfl) (Nat.le_of_ble_eq_true rfl) (Nat.le_of_ble_eq_true rfl) ?_
  refine zOuts (A := A) hL hA (by omega) (by omega) (r := (scV G (i + 1))) (kk := (scV G (i + 2))) (r32_of _) (r32_of _) (fun S1 sz1 sl1 j1 j2 j3 j4 j5 => ⟨_, rfl, ?_⟩)
  have hci : CI (opOuts A (scV G (i + 1)) (scV G (i + 2))).2.1 := opOuts_ci hA
  generalize hop : opOuts A (scV G (i + 1)) (scV G (i + 2)) = oo at j1 j3 hci ⊢
  have hz : sz1 + 1 ≤ G.b0 + mm_mxC := by omega
  have hl : sl1 + 6 ≤ mm_mxS := by omega
  show Ez G 124 1225 [some (aR 70 (0 : Int)), some (aR 0 (0 : Int)), some (aR 20 (0 : Int)), some (aR 51 (0 : Int)), some (aI i), o5, o6, o7] [aI (oo.1)] S1 _ _ _ _
  refine ez_rg (fun hg2 => ?_)
  refine ez_s0 6 (pc' := 1233) (ls' := [some (aR 70 (0 : Int)), some (aR 0 (0 : Int)), some (aR 20 (0 : Int)), some (aR 51 (0 : Int)), some (aI i), some (aI (oo.1)), o6, o7]) (st' := [aI (i + 1), aR 70 (0 : Int), aR 20 (0 : Int)]) (S' := S1) rfl ?_
  refine ez_sg 6 (p := (0 ≤ (i + 1) ∧ (i + 1) < (G.xl : Int)) ∧ (0 ≤ (i + 2) ∧ (i + 2) < (G.xl : Int))) (pc' := 1240) (ls' := [some (aR 70 (0 : Int)), some (aR 0 (0 : Int)), some (aR 20 (0 : Int)), some (aR 51 (0 : Int)), some (aI i), some (aI (oo.1)), o6, o7]) (st' := [aI (scV G (i + 2)), aI (scV G (i + 1)), aR 20 (0 : Int)]) (S' := S1) rfl ⟨(by omega), (by omega)⟩ ?_
  refine ez_callV rfl rfl 20 (0 : Int) [aI (scV G (i + 1)), aI (scV G (i + 2))] [] rfl rfl rfl rfl (Nat.le_of_ble_eq_true rfl) (Nat.le_of_ble_eq_true rfl) (Nat.le_of_ble_eq_true rfl) hz hl ?_
  refine qOuts (S := S1) (A := A) hA (hR.fq j2) (r := (scV G (i + 1))) (kk := (scV G (i + 2))) (r32_of _) (r32_of _) (fun S2 r q1 q2 q3 q4 q5 => ?_)
  rw [hop] at q1 q3 q5
  have e51 : S2 51 0 0 = S1 51 0 0 := by rw [q2 51 (Or.inr rfl)]
  show Ez G 124 1243 [some (aR 70 (0 : Int)), some (aR 0 (0 : Int)), some (aR 20 (0 : Int)), some (aR 51 (0 : Int)), some (aI i), some (aI (oo.1)), o6, o7] [aI r] S2 _ _ _ _
  refine ez_rg (fun hg3 => ?_)
  have hoc : r32 oo.1 := by
    rw [← q3]
    exact rgI hg3 (t := 20) (i := (0 : Int)) (q := (0 : Int)) (by omega : 0 ≤ (0 : Int) ∧ (0 : Int) < 1) (by omega) rfl
  refine ez_s0 2 (pc' := 1246) (ls' := [some (aR 70 (0 : Int)), some (aR 0 (0 : Int)), some (aR 20 (0 : Int)), some (aR 51 (0 : Int)), some (aI i), some (aI (oo.1)), some (aI r), o7]) (st' := [aR 20 (0 : Int)]) (S' := S2) rfl ?_
  refine ez_callV rfl rfl 20 (0 : Int) [] [] rfl rfl rfl rfl (Nat.le_of_ble_eq_true rfl) (Nat.le_of_ble_eq_true rfl) (Nat.le_of_ble_eq_true rfl) hz hl ?_
  refine n15 (S := S2) ?_
  show Ez G 124 1249 [some (aR 70 (0 : Int)), some (aR 0 (0 : Int)), some (aR 20 (0 : Int)), some (aR 51 (0 : Int)), some (aI i), some (aI (oo.1)), some (aI r), o7] [aI (S2 20 0 0)] S2 _ _ _ _
  refine ez_s0 1 (pc' := 1251) (ls' := [some (aR 70 (0 : Int)), some (aR 0 (0 : Int)), some (aR 20 (0 : Int)), some (aR 51 (0 : Int)), some (aI i), some (aI (oo.1)), some (aI r), o7]) (st' := [aI (oo.1), aI (S2 20 0 0)]) (S' := S2) rfl ?_
  refine ez_icmp rfl 1256 rfl (rgI hg3 (t := 20) (i := (0 : Int)) (q := (0 : Int)) (by omega : 0 ≤ (0 : Int) ∧ (0 : Int) < 1) (by omega) rfl) hoc (fun (g1251 : (S2 20 0 0) = (oo.1)) => ?_) (fun (g1251 : ¬ ((S2 20 0 0) = (oo.1))) => ?_)
  · refine ez_s0 1 (pc' := 1258) (ls' := [some (aR 70 (0 : Int)), some (aR 0 (0 : Int)), some (aR 20 (0 : Int)), some (aR 51 (0 : Int)), some (aI i), some (aI (oo.1)), some (aI r), o7]) (st' := [aI (oo.1)]) (S' := S2) rfl ?_
    refine ez_if rfl 1273 rfl hoc (fun (g1258 : ¬ (oo.1) = (0 : Int)) => ?_) (fun (g1258 : ¬ (¬ (oo.1) = (0 : Int))) => ?_)
    · refine ez_s0 1 (pc' := 1789) (ls' := [some (aR 70 (0 : Int)), some (aR 0 (0 : Int)), some (aR 20 (0 : Int)), some (aR 51 (0 : Int)), some (aI i), some (aI (oo.1)), some (aI r), o7]) (st' := []) (S' := S2) rfl ?_
      exact hk oo.2.1 S2 sz1 sl1 _ _ _ hci (j1.fd q2) q1 (by omega) (by omega)
    · refine ez_sg 5 (p := (((0 : Int) = 0) ∧ (0 ≤ (0 : Int) ∧ (0 : Int) < 1)) ∧ (r32 r)) (pc' := 1267) (ls' := [some (aR 70 (0 : Int)), some (aR 0 (0 : Int)), some (aR 20 (0 : Int)), some (aR 51 (0 : Int)), some (aI i), some (aI (oo.1)), some (aI r), o7]) (st' := [aL r, aL (S2 51 0 0)]) (S' := S2) rfl ⟨⟨rfl, (by omega)⟩, ⟨by have := q4.1; omega, by have := q4.2; omega⟩⟩ ?_
      refine ez_lif rfl rfl 1273 rfl (rgL hg3 (t := 51) (i := (0 : Int)) (q := (0 : Int)) (by omega : 0 ≤ (0 : Int) ∧ (0 : Int) < 1) (by omega) rfl) ⟨by have := q4.1; omega, by have := q4.2; omega⟩ (fun (g1267 : (S2 51 0 0) = r) => ?_) (fun (g1267 : ¬ ((S2 51 0 0) = r)) => ?_)
      · refine ez_s0 1 (pc' := 1789) (ls' := [some (aR 70 (0 : Int)), some (aR 0 (0 : Int)), some (aR 20 (0 : Int)), some (aR 51 (0 : Int)), some (aI i), some (aI (oo.1)), some (aI r), o7]) (st' := []) (S' := S2) rfl ?_
        exact hk oo.2.1 S2 sz1 sl1 _ _ _ hci (j1.fd q2) q1 (by omega) (by omega)
      · refine ez_s0 1 (pc' := 1272) (ls' := [some (aR 70 (0 : Int)), some (aR 0 (0 : Int)), some (aR 20 (0 : Int)), some (aR 51 (0 : Int)), some (aI i), some (aI (oo.1)), some (aI r), o7]) (st' := [aI (0 : Int)]) (S' := S2) rfl ?_
        refine ez_iret rfl rfl rfl (Or.inr ⟨rfl, (by decide)⟩) ?_
        exfalso; omega
  · refine ez_s0 1 (pc' := 1255) (ls' := [some (aR 70 (0 : Int)), some (aR 0 (0 : Int)), some (aR 20 (0 : Int)), some (aR 51 (0 : Int)), some (aI i), some (aI (oo.1)), some (aI r), o7]) (st' := [aI (0 : Int)]) (S' := S2) rfl ?_
    refine ez_iret rfl rfl rfl (Or.inr ⟨rfl, (by decide)⟩) ?_
    exfalso; omega
theorem lawLabel {G : Gw} {S : Sg} {sz sl k : Nat} {Q : ZQ} {A : Sg} {i : Int} {o5 o6 o7 : Option AV} (hi : 0 ≤ i ∧ i + 9 ≤ (G.xl : Int)) (hx : G.xl ≤ 4608) (hA : CI A) (hL : Lk A S) (hR : RR A S) (hza : sz + 2 ≤ G.b0 + mm_mxC) (hla : sl + 12 ≤ mm_mxS) (hk : ∀ (A' S' : Sg) (sz' sl' : Nat) (o5 o6 o7 : Option AV), CI A' → Lk A' S' → RR A' S' → sz' ≤ sz + 1 → sl' ≤ sl + 6 → Ez G 124 1789 [some (aR 70 (0 : Int)), some (aR 0 (0 : Int)), some (aR 20 (0 : Int)), some (aR 51 (0 : Int)), some (aI i), o5, o6, o7] [] S' sz' sl' (k + 10) Q) : Ez G 124 1276 [some (aR 70 (0 : Int)), some (aR 0 (0 : Int)), some (aR 20 (0 : Int)), some (aR 51 (0 : Int)), some (aI i), o5, o6, o7] [] S sz sl (k + 10) Q := by
  refine ez_rg (fun hg1 => ?_)
  refine ez_sg 6 (p := 0 ≤ (i + 1) ∧ (i + 1) < (G.xl : Int)) (pc' := 1283) (ls' := [some (aR 70 (0 : Int)), some (aR 0 (0 : Int)), some (aR 20 (0 : Int)), some (aR 51 (0 : Int)), some (aI i), o5, o6, o7]) (st' := [aI (scV G (i + 1)), aR 0 (0 : Int)]) (S' := S) rfl (by omega) ?_
  refine ez_sg 6 (p := (0 ≤ (i + 2) ∧ (i + 2) < (G.xl : Int)) ∧ (r32 (scV G (i + 2)))) (pc' := 1290) (ls' := [some (aR 70 (0 : Int)), some (aR 0 (0 : Int)), some (aR 20 (0 : Int)), some (aR 51 (0 : Int)), some (aI i), o5, o6, o7]) (st' := [aL (scV G (i + 2)), aI (scV G (i + 1)), aR 0 (0 : Int)]) (S' := S) rfl ⟨(by omega), (r32_of _)⟩ ?_
  refine ez_s0 6 (pc' := 1298) (ls' := [some (aR 70 (0 : Int)), some (aR 0 (0 : Int)), some (aR 20 (0 : Int)), some (aR 51 (0 : Int)), some (aI i), o5, o6, o7]) (st' := [aI (i + 3), aR 70 (0 : Int), aL (lShl (scV G (i + 2)) (32 : Int)), aI (scV G (i + 1)), aR 0 (0 : Int)]) (S' := S) rfl ?_
  refine ez_sg 6 (p := (0 ≤ (i + 3) ∧ (i + 3) < (G.xl : Int)) ∧ (r32 (scV G (i + 3)))) (pc' := 1306) (ls' := [some (aR 70 (0 : Int)), some (aR 0 (0 : Int)), some (aR 20 (0 : Int)), some (aR 51 (0 : Int)), some (aI i), o5, o6, o7]) (st' := [aR 70 (0 : Int), aL (lOr (lShl (scV G (i + 2)) (32 : Int)) (lAnd (scV G (i + 3)) (4294967295 : Int))), aI (scV G (i + 1)), aR 0 (0 : Int)]) (S' := S) rfl ⟨(by omega), (r32_of _)⟩ ?_
  refine ez_sg 6 (p := (0 ≤ (i + 4) ∧ (i + 4) < (G.xl : Int)) ∧ (r32 (scV G (i + 4)))) (pc' := 1314) (ls' := [some (aR 70 (0 : Int)), some (aR 0 (0 : Int)), some (aR 20 (0 : Int)), some (aR 51 (0 : Int)), some (aI i), o5, o6, o7]) (st' := [aI (32 : Int), aL (scV G (i + 4)), aL (lOr (lShl (scV G (i + 2)) (32 : Int)) (lAnd (scV G (i + 3)) (4294967295 : Int))), aI (scV G (i + 1)), aR 0 (0 : Int)]) (S' := S) rfl ⟨(by omega), (r32_of _)⟩ ?_
  refine ez_sg 6 (p := 0 ≤ (i + 5) ∧ (i + 5) < (G.xl : Int)) (pc' := 1321) (ls' := [some (aR 70 (0 : Int)), some (aR 0 (0 : Int)), some (aR 20 (0 : Int)), some (aR 51 (0 : Int)), some (aI i), o5, o6, o7]) (st' := [aI (scV G (i + 5)), aL (lShl (scV G (i + 4)) (32 : Int)), aL (lOr (lShl (scV G (i + 2)) (32 : Int)) (lAnd (scV G (i + 3)) (4294967295 : Int))), aI (scV G (i + 1)), aR 0 (0 : Int)]) (S' := S) rfl (by omega) ?_
  refine ez_sg 5 (p := r32 (scV G (i + 5))) (pc' := 1328) (ls' := [some (aR 70 (0 : Int)), some (aR 0 (0 : Int)), some (aR 20 (0 : Int)), some (aR 51 (0 : Int)), some (aI i), o5, o6, o7]) (st' := [aR 51 (0 : Int), aL (lOr (lShl (scV G (i + 4)) (32 : Int)) (lAnd (scV G (i + 5)) (4294967295 : Int))), aL (lOr (lShl (scV G (i + 2)) (32 : Int)) (lAnd (scV G (i + 3)) (4294967295 : Int))), aI (scV G (i + 1)), aR 0 (0 : Int)]) (S' := S) rfl (r32_of _) ?_
  refine ez_callZ rfl rfl [aR 0 (0 : Int), aI (scV G (i + 1)), aL (lOr (lShl (scV G (i + 2)) (32 : Int)) (lAnd (scV G (i + 3)) (4294967295 : Int))), aL (lOr (lShl (scV G (i + 4)) (32 : Int)) (lAnd (scV G (i + 5)) (4294967295 : Int))), aR 51 (0 : Int)] [] rfl rfl (Nat.le_of_ble_eq_true rfl) (Nat.le_of_ble_eq_true rfl) (Nat.le_of_ble_eq_true rfl) ?_
  refine zLabel (A := A) hL hA (by omega) (by omega) (p := (scV G (i + 1))) (w := (lOr (lShl (scV G (i + 2)) (32 : Int)) (lAnd (scV G (i + 3)) (4294967295 : Int)))) (hh := (lOr (lShl (scV G (i + 4)) (32 : Int)) (lAnd (scV G (i + 5)) (4294967295 : Int)))) (r32_of _) (r64_of _) (r64_of _) (fun S1 sz1 sl1 j1 j2 j3 j4 j5 => ⟨_, rfl, ?_⟩)
  have hci : CI (opLabel A (scV G (i + 1)) (lOr (lShl (scV G (i + 2)) (32 : Int)) (lAnd (scV G (i + 3)) (4294967295 : Int))) (lOr (lShl (scV G (i + 4)) (32 : Int)) (lAnd (scV G (i + 5)) (4294967295 : Int)))).2.1 := opLabel_ci hA
  generalize hop : opLabel A (scV G (i + 1)) (lOr (lShl (scV G (i + 2)) (32 : Int)) (lAnd (scV G (i + 3)) (4294967295 : Int))) (lOr (lShl (scV G (i + 4)) (32 : Int)) (lAnd (scV G (i + 5)) (4294967295 : Int))) = oo at j1 j3 hci ⊢
  have hz : sz1 + 1 ≤ G.b0 + mm_mxC := by omega
  have hl : sl1 + 6 ≤ mm_mxS := by omega
  show Ez G 124 1331 [some (aR 70 (0 : Int)), some (aR 0 (0 : Int)), some (aR 20 (0 : Int)), some (aR 51 (0 : Int)), some (aI i), o5, o6, o7] [aI (oo.1)] S1 _ _ _ _
  refine ez_rg (fun hg2 => ?_)
  refine ez_s0 6 (pc' := 1339) (ls' := [some (aR 70 (0 : Int)), some (aR 0 (0 : Int)), some (aR 20 (0 : Int)), some (aR 51 (0 : Int)), some (aI i), some (aI (oo.1)), o6, o7]) (st' := [aI (i + 1), aR 70 (0 : Int), aR 20 (0 : Int)]) (S' := S1) rfl ?_
  refine ez_sg 6 (p := (0 ≤ (i + 1) ∧ (i + 1) < (G.xl : Int)) ∧ (0 ≤ (i + 2) ∧ (i + 2) < (G.xl : Int))) (pc' := 1346) (ls' := [some (aR 70 (0 : Int)), some (aR 0 (0 : Int)), some (aR 20 (0 : Int)), some (aR 51 (0 : Int)), some (aI i), some (aI (oo.1)), o6, o7]) (st' := [aI (scV G (i + 2)), aI (scV G (i + 1)), aR 20 (0 : Int)]) (S' := S1) rfl ⟨(by omega), (by omega)⟩ ?_
  refine ez_sg 6 (p := r32 (scV G (i + 2))) (pc' := 1354) (ls' := [some (aR 70 (0 : Int)), some (aR 0 (0 : Int)), some (aR 20 (0 : Int)), some (aR 51 (0 : Int)), some (aI i), some (aI (oo.1)), o6, o7]) (st' := [aI (3 : Int), aI i, aR 70 (0 : Int), aL (lShl (scV G (i + 2)) (32 : Int)), aI (scV G (i + 1)), aR 20 (0 : Int)]) (S' := S1) rfl (r32_of _) ?_
  refine ez_sg 6 (p := (0 ≤ (i + 3) ∧ (i + 3) < (G.xl : Int)) ∧ (r32 (scV G (i + 3)))) (pc' := 1362) (ls' := [some (aR 70 (0 : Int)), some (aR 0 (0 : Int)), some (aR 20 (0 : Int)), some (aR 51 (0 : Int)), some (aI i), some (aI (oo.1)), o6, o7]) (st' := [aL (lOr (lShl (scV G (i + 2)) (32 : Int)) (lAnd (scV G (i + 3)) (4294967295 : Int))), aI (scV G (i + 1)), aR 20 (0 : Int)]) (S' := S1) rfl ⟨(by omega), (r32_of _)⟩ ?_
  refine ez_sg 6 (p := (0 ≤ (i + 4) ∧ (i + 4) < (G.xl : Int)) ∧ (r32 (scV G (i + 4)))) (pc' := 1369) (ls' := [some (aR 70 (0 : Int)), some (aR 0 (0 : Int)), some (aR 20 (0 : Int)), some (aR 51 (0 : Int)), some (aI i), some (aI (oo.1)), o6, o7]) (st' := [aL (scV G (i + 4)), aL (lOr (lShl (scV G (i + 2)) (32 : Int)) (lAnd (scV G (i + 3)) (4294967295 : Int))), aI (scV G (i + 1)), aR 20 (0 : Int)]) (S' := S1) rfl ⟨(by omega), (r32_of _)⟩ ?_
  refine ez_s0 6 (pc' := 1377) (ls' := [some (aR 70 (0 : Int)), some (aR 0 (0 : Int)), some (aR 20 (0 : Int)), some (aR 51 (0 : Int)), some (aI i), some (aI (oo.1)), o6, o7]) (st' := [aI (i + 5), aR 70 (0 : Int), aL (lShl (scV G (i + 4)) (32 : Int)), aL (lOr (lShl (scV G (i + 2)) (32 : Int)) (lAnd (scV G (i + 3)) (4294967295 : Int))), aI (scV G (i + 1)), aR 20 (0 : Int)]) (S' := S1) rfl ?_
  refine ez_sg 5 (p := (0 ≤ (i + 5) ∧ (i + 5) < (G.xl : Int)) ∧ (r32 (scV G (i + 5)))) (pc' := 1384) (ls' := [some (aR 70 (0 : Int)), some (aR 0 (0 : Int)), some (aR 20 (0 : Int)), some (aR 51 (0 : Int)), some (aI i), some (aI (oo.1)), o6, o7]) (st' := [aL (lOr (lShl (scV G (i + 4)) (32 : Int)) (lAnd (scV G (i + 5)) (4294967295 : Int))), aL (lOr (lShl (scV G (i + 2)) (32 : Int)) (lAnd (scV G (i + 3)) (4294967295 : Int))), aI (scV G (i + 1)), aR 20 (0 : Int)]) (S' := S1) rfl ⟨(by omega), (r32_of _)⟩ ?_
  refine ez_callV rfl rfl 20 (0 : Int) [aI (scV G (i + 1)), aL (lOr (lShl (scV G (i + 2)) (32 : Int)) (lAnd (scV G (i + 3)) (4294967295 : Int))), aL (lOr (lShl (scV G (i + 4)) (32 : Int)) (lAnd (scV G (i + 5)) (4294967295 : Int)))] [] rfl rfl rfl rfl (Nat.le_of_ble_eq_true rfl) (Nat.le_of_ble_eq_true rfl) (Nat.le_of_ble_eq_true rfl) hz hl ?_
  refine qLabel (S := S1) (A := A) hA (hR.fq j2) (p := (scV G (i + 1))) (w := (lOr (lShl (scV G (i + 2)) (32 : Int)) (lAnd (scV G (i + 3)) (4294967295 : Int)))) (hh := (lOr (lShl (scV G (i + 4)) (32 : Int)) (lAnd (scV G (i + 5)) (4294967295 : Int)))) (r32_of _) (r64_of _) (r64_of _) (fun S2 r q1 q2 q3 q4 q5 => ?_)
  rw [hop] at q1 q3 q5
  have e51 : S2 51 0 0 = S1 51 0 0 := by rw [q2 51 (Or.inr rfl)]
  show Ez G 124 1387 [some (aR 70 (0 : Int)), some (aR 0 (0 : Int)), some (aR 20 (0 : Int)), some (aR 51 (0 : Int)), some (aI i), some (aI (oo.1)), o6, o7] [aI r] S2 _ _ _ _
  refine ez_rg (fun hg3 => ?_)
  have hoc : r32 oo.1 := by
    rw [← q3]
    exact rgI hg3 (t := 20) (i := (0 : Int)) (q := (0 : Int)) (by omega : 0 ≤ (0 : Int) ∧ (0 : Int) < 1) (by omega) rfl
  refine ez_s0 2 (pc' := 1390) (ls' := [some (aR 70 (0 : Int)), some (aR 0 (0 : Int)), some (aR 20 (0 : Int)), some (aR 51 (0 : Int)), some (aI i), some (aI (oo.1)), some (aI r), o7]) (st' := [aR 20 (0 : Int)]) (S' := S2) rfl ?_
  refine ez_callV rfl rfl 20 (0 : Int) [] [] rfl rfl rfl rfl (Nat.le_of_ble_eq_true rfl) (Nat.le_of_ble_eq_true rfl) (Nat.le_of_ble_eq_true rfl) hz hl ?_
  refine n15 (S := S2) ?_
  show Ez G 124 1393 [some (aR 70 (0 : Int)), some (aR 0 (0 : Int)), some (aR 20 (0 : Int)), some (aR 51 (0 : Int)), some (aI i), some (aI (oo.1)), some (aI r), o7] [aI (S2 20 0 0)] S2 _ _ _ _
  refine ez_s0 1 (pc' := 1395) (ls' := [some (aR 70 (0 : Int)), some (aR 0 (0 : Int)), some (aR 20 (0 : Int)), some (aR 51 (0 : Int)), some (aI i), some (aI (oo.1)), some (aI r), o7]) (st' := [aI (oo.1), aI (S2 20 0 0)]) (S' := S2) rfl ?_
  refine ez_icmp rfl 1400 rfl (rgI hg3 (t := 20) (i := (0 : Int)) (q := (0 : Int)) (by omega : 0 ≤ (0 : Int) ∧ (0 : Int) < 1) (by omega) rfl) hoc (fun (g1395 : (S2 20 0 0) = (oo.1)) => ?_) (fun (g1395 : ¬ ((S2 20 0 0) = (oo.1))) => ?_)
  · refine ez_s0 1 (pc' := 1402) (ls' := [some (aR 70 (0 : Int)), some (aR 0 (0 : Int)), some (aR 20 (0 : Int)), some (aR 51 (0 : Int)), some (aI i), some (aI (oo.1)), some (aI r), o7]) (st' := [aI (oo.1)]) (S' := S2) rfl ?_
    refine ez_if rfl 1417 rfl hoc (fun (g1402 : ¬ (oo.1) = (0 : Int)) => ?_) (fun (g1402 : ¬ (¬ (oo.1) = (0 : Int))) => ?_)
    · refine ez_s0 1 (pc' := 1789) (ls' := [some (aR 70 (0 : Int)), some (aR 0 (0 : Int)), some (aR 20 (0 : Int)), some (aR 51 (0 : Int)), some (aI i), some (aI (oo.1)), some (aI r), o7]) (st' := []) (S' := S2) rfl ?_
      exact hk oo.2.1 S2 sz1 sl1 _ _ _ hci (j1.fd q2) q1 (by omega) (by omega)
    · refine ez_sg 5 (p := (((0 : Int) = 0) ∧ (0 ≤ (0 : Int) ∧ (0 : Int) < 1)) ∧ (r32 r)) (pc' := 1411) (ls' := [some (aR 70 (0 : Int)), some (aR 0 (0 : Int)), some (aR 20 (0 : Int)), some (aR 51 (0 : Int)), some (aI i), some (aI (oo.1)), some (aI r), o7]) (st' := [aL r, aL (S2 51 0 0)]) (S' := S2) rfl ⟨⟨rfl, (by omega)⟩, ⟨by have := q4.1; omega, by have := q4.2; omega⟩⟩ ?_
      refine ez_lif rfl rfl 1417 rfl (rgL hg3 (t := 51) (i := (0 : Int)) (q := (0 : Int)) (by omega : 0 ≤ (0 : Int) ∧ (0 : Int) < 1) (by omega) rfl) ⟨by have := q4.1; omega, by have := q4.2; omega⟩ (fun (g1411 : (S2 51 0 0) = r) => ?_) (fun (g1411 : ¬ ((S2 51 0 0) = r)) => ?_)
      · refine ez_s0 1 (pc' := 1789) (ls' := [some (aR 70 (0 : Int)), some (aR 0 (0 : Int)), some (aR 20 (0 : Int)), some (aR 51 (0 : Int)), some (aI i), some (aI (oo.1)), some (aI r), o7]) (st' := []) (S' := S2) rfl ?_
        exact hk oo.2.1 S2 sz1 sl1 _ _ _ hci (j1.fd q2) q1 (by omega) (by omega)
      · refine ez_s0 1 (pc' := 1416) (ls' := [some (aR 70 (0 : Int)), some (aR 0 (0 : Int)), some (aR 20 (0 : Int)), some (aR 51 (0 : Int)), some (aI i), some (aI (oo.1)), some (aI r), o7]) (st' := [aI (0 : Int)]) (S' := S2) rfl ?_
        refine ez_iret rfl rfl rfl (Or.inr ⟨rfl, (by decide)⟩) ?_
        exfalso; omega
  · refine ez_s0 1 (pc' := 1399) (ls' := [some (aR 70 (0 : Int)), some (aR 0 (0 : Int)), some (aR 20 (0 : Int)), some (aR 51 (0 : Int)), some (aI i), some (aI (oo.1)), some (aI r), o7]) (st' := [aI (0 : Int)]) (S' := S2) rfl ?_
    refine ez_iret rfl rfl rfl (Or.inr ⟨rfl, (by decide)⟩) ?_
    exfalso; omega
theorem lawLabAt {G : Gw} {S : Sg} {sz sl k : Nat} {Q : ZQ} {A : Sg} {i : Int} {o5 o6 o7 : Option AV} (hi : 0 ≤ i ∧ i + 9 ≤ (G.xl : Int)) (hx : G.xl ≤ 4608) (hA : CI A) (hL : Lk A S) (hR : RR A S) (hza : sz + 2 ≤ G.b0 + mm_mxC) (hla : sl + 12 ≤ mm_mxS) (hk : ∀ (A' S' : Sg) (sz' sl' : Nat) (o5 o6 o7 : Option AV), CI A' → Lk A' S' → RR A' S' → sz' ≤ sz + 1 → sl' ≤ sl + 6 → Ez G 124 1789 [some (aR 70 (0 : Int)), some (aR 0 (0 : Int)), some (aR 20 (0 : Int)), some (aR 51 (0 : Int)), some (aI i), o5, o6, o7] [] S' sz' sl' (k + 10) Q) : Ez G 124 1420 [some (aR 70 (0 : Int)), some (aR 0 (0 : Int)), some (aR 20 (0 : Int)), some (aR 51 (0 : Int)), some (aI i), o5, o6, o7] [] S sz sl (k + 10) Q := by
  refine ez_rg (fun hg1 => ?_)
  refine ez_sg 6 (p := 0 ≤ (i + 1) ∧ (i + 1) < (G.xl : Int)) (pc' := 1427) (ls' := [some (aR 70 (0 : Int)), some (aR 0 (0 : Int)), some (aR 20 (0 : Int)), some (aR 51 (0 : Int)), some (aI i), o5, o6, o7]) (st' := [aI (scV G (i + 1)), aR 0 (0 : Int)]) (S' := S) rfl (by omega) ?_
  refine ez_sg 6 (p := 0 ≤ (i + 2) ∧ (i + 2) < (G.xl : Int)) (pc' := 1434) (ls' := [some (aR 70 (0 : Int)), some (aR 0 (0 : Int)), some (aR 20 (0 : Int)), some (aR 51 (0 : Int)), some (aI i), o5, o6, o7]) (st' := [aR 51 (0 : Int), aI (scV G (i + 2)), aI (scV G (i + 1)), aR 0 (0 : Int)]) (S' := S) rfl (by omega) ?_
  refine ez_callZ rfl rfl [aR 0 (0 : Int), aI (scV G (i + 1)), aI (scV G (i + 2)), aR 51 (0 : Int)] [] rfl rfl (Nat.le_of_ble_eq_true rfl) (Nat.le_of_ble_eq_true rfl) (Nat.le_of_ble_eq_true rfl) ?_
  refine zLabAt (A := A) hL hA (by omega) (by omega) (p := (scV G (i + 1))) (a := (scV G (i + 2))) (r32_of _) (r32_of _) (fun S1 sz1 sl1 j1 j2 j3 j4 j5 => ⟨_, rfl, ?_⟩)
  have hci : CI (opLabAt A (scV G (i + 1)) (scV G (i + 2))).2.1 := opLabAt_ci hA
  generalize hop : opLabAt A (scV G (i + 1)) (scV G (i + 2)) = oo at j1 j3 hci ⊢
  have hz : sz1 + 1 ≤ G.b0 + mm_mxC := by omega
  have hl : sl1 + 6 ≤ mm_mxS := by omega
  show Ez G 124 1437 [some (aR 70 (0 : Int)), some (aR 0 (0 : Int)), some (aR 20 (0 : Int)), some (aR 51 (0 : Int)), some (aI i), o5, o6, o7] [aI (oo.1)] S1 _ _ _ _
  refine ez_rg (fun hg2 => ?_)
  refine ez_s0 6 (pc' := 1445) (ls' := [some (aR 70 (0 : Int)), some (aR 0 (0 : Int)), some (aR 20 (0 : Int)), some (aR 51 (0 : Int)), some (aI i), some (aI (oo.1)), o6, o7]) (st' := [aI (i + 1), aR 70 (0 : Int), aR 20 (0 : Int)]) (S' := S1) rfl ?_
  refine ez_sg 6 (p := (0 ≤ (i + 1) ∧ (i + 1) < (G.xl : Int)) ∧ (0 ≤ (i + 2) ∧ (i + 2) < (G.xl : Int))) (pc' := 1452) (ls' := [some (aR 70 (0 : Int)), some (aR 0 (0 : Int)), some (aR 20 (0 : Int)), some (aR 51 (0 : Int)), some (aI i), some (aI (oo.1)), o6, o7]) (st' := [aI (scV G (i + 2)), aI (scV G (i + 1)), aR 20 (0 : Int)]) (S' := S1) rfl ⟨(by omega), (by omega)⟩ ?_
  refine ez_callV rfl rfl 20 (0 : Int) [aI (scV G (i + 1)), aI (scV G (i + 2))] [] rfl rfl rfl rfl (Nat.le_of_ble_eq_true rfl) (Nat.le_of_ble_eq_true rfl) (Nat.le_of_ble_eq_true rfl) hz hl ?_
  refine qLabAt (S := S1) (A := A) hA (hR.fq j2) (p := (scV G (i + 1))) (a := (scV G (i + 2))) (r32_of _) (r32_of _) (fun S2 r q1 q2 q3 q4 q5 => ?_)
  rw [hop] at q1 q3 q5
  have e51 : S2 51 0 0 = S1 51 0 0 := by rw [q2 51 (Or.inr rfl)]
  show Ez G 124 1455 [some (aR 70 (0 : Int)), some (aR 0 (0 : Int)), some (aR 20 (0 : Int)), some (aR 51 (0 : Int)), some (aI i), some (aI (oo.1)), o6, o7] [aL r] S2 _ _ _ _
  refine ez_rg (fun hg3 => ?_)
  have hoc : r32 oo.1 := by
    rw [← q3]
    exact rgI hg3 (t := 20) (i := (0 : Int)) (q := (0 : Int)) (by omega : 0 ≤ (0 : Int) ∧ (0 : Int) < 1) (by omega) rfl
  refine ez_s0 2 (pc' := 1458) (ls' := [some (aR 70 (0 : Int)), some (aR 0 (0 : Int)), some (aR 20 (0 : Int)), some (aR 51 (0 : Int)), some (aI i), some (aI (oo.1)), some (aL r), none]) (st' := [aR 20 (0 : Int)]) (S' := S2) rfl ?_
  refine ez_callV rfl rfl 20 (0 : Int) [] [] rfl rfl rfl rfl (Nat.le_of_ble_eq_true rfl) (Nat.le_of_ble_eq_true rfl) (Nat.le_of_ble_eq_true rfl) hz hl ?_
  refine n15 (S := S2) ?_
  show Ez G 124 1461 [some (aR 70 (0 : Int)), some (aR 0 (0 : Int)), some (aR 20 (0 : Int)), some (aR 51 (0 : Int)), some (aI i), some (aI (oo.1)), some (aL r), none] [aI (S2 20 0 0)] S2 _ _ _ _
  refine ez_s0 1 (pc' := 1463) (ls' := [some (aR 70 (0 : Int)), some (aR 0 (0 : Int)), some (aR 20 (0 : Int)), some (aR 51 (0 : Int)), some (aI i), some (aI (oo.1)), some (aL r), none]) (st' := [aI (oo.1), aI (S2 20 0 0)]) (S' := S2) rfl ?_
  refine ez_icmp rfl 1468 rfl (rgI hg3 (t := 20) (i := (0 : Int)) (q := (0 : Int)) (by omega : 0 ≤ (0 : Int) ∧ (0 : Int) < 1) (by omega) rfl) hoc (fun (g1463 : (S2 20 0 0) = (oo.1)) => ?_) (fun (g1463 : ¬ ((S2 20 0 0) = (oo.1))) => ?_)
  · refine ez_s0 1 (pc' := 1470) (ls' := [some (aR 70 (0 : Int)), some (aR 0 (0 : Int)), some (aR 20 (0 : Int)), some (aR 51 (0 : Int)), some (aI i), some (aI (oo.1)), some (aL r), none]) (st' := [aI (oo.1)]) (S' := S2) rfl ?_
    refine ez_if rfl 1484 rfl hoc (fun (g1470 : ¬ (oo.1) = (0 : Int)) => ?_) (fun (g1470 : ¬ (¬ (oo.1) = (0 : Int))) => ?_)
    · refine ez_s0 1 (pc' := 1789) (ls' := [some (aR 70 (0 : Int)), some (aR 0 (0 : Int)), some (aR 20 (0 : Int)), some (aR 51 (0 : Int)), some (aI i), some (aI (oo.1)), some (aL r), none]) (st' := []) (S' := S2) rfl ?_
      exact hk oo.2.1 S2 sz1 sl1 _ _ _ hci (j1.fd q2) q1 (by omega) (by omega)
    · refine ez_sg 4 (p := ((0 : Int) = 0) ∧ (0 ≤ (0 : Int) ∧ (0 : Int) < 1)) (pc' := 1478) (ls' := [some (aR 70 (0 : Int)), some (aR 0 (0 : Int)), some (aR 20 (0 : Int)), some (aR 51 (0 : Int)), some (aI i), some (aI (oo.1)), some (aL r), none]) (st' := [aL r, aL (S2 51 0 0)]) (S' := S2) rfl ⟨rfl, (by omega)⟩ ?_
      refine ez_lif rfl rfl 1484 rfl (rgL hg3 (t := 51) (i := (0 : Int)) (q := (0 : Int)) (by omega : 0 ≤ (0 : Int) ∧ (0 : Int) < 1) (by omega) rfl) q4 (fun (g1478 : (S2 51 0 0) = r) => ?_) (fun (g1478 : ¬ ((S2 51 0 0) = r)) => ?_)
      · refine ez_s0 1 (pc' := 1789) (ls' := [some (aR 70 (0 : Int)), some (aR 0 (0 : Int)), some (aR 20 (0 : Int)), some (aR 51 (0 : Int)), some (aI i), some (aI (oo.1)), some (aL r), none]) (st' := []) (S' := S2) rfl ?_
        exact hk oo.2.1 S2 sz1 sl1 _ _ _ hci (j1.fd q2) q1 (by omega) (by omega)
      · refine ez_s0 1 (pc' := 1483) (ls' := [some (aR 70 (0 : Int)), some (aR 0 (0 : Int)), some (aR 20 (0 : Int)), some (aR 51 (0 : Int)), some (aI i), some (aI (oo.1)), some (aL r), none]) (st' := [aI (0 : Int)]) (S' := S2) rfl ?_
        refine ez_iret rfl rfl rfl (Or.inr ⟨rfl, (by decide)⟩) ?_
        exfalso; omega
  · refine ez_s0 1 (pc' := 1467) (ls' := [some (aR 70 (0 : Int)), some (aR 0 (0 : Int)), some (aR 20 (0 : Int)), some (aR 51 (0 : Int)), some (aI i), some (aI (oo.1)), some (aL r), none]) (st' := [aI (0 : Int)]) (S' := S2) rfl ?_
    refine ez_iret rfl rfl rfl (Or.inr ⟨rfl, (by decide)⟩) ?_
    exfalso; omega
theorem lawArray {G : Gw} {S : Sg} {sz sl k : Nat} {Q : ZQ} {A : Sg} {i : Int} {o5 o6 o7 : Option AV} (hi : 0 ≤ i ∧ i + 9 ≤ (G.xl : Int)) (hx : G.xl ≤ 4608) (hA : CI A) (hL : Lk A S) (hR : RR A S) (hza : sz + 2 ≤ G.b0 + mm_mxC) (hla : sl + 12 ≤ mm_mxS) (hk : ∀ (A' S' : Sg) (sz' sl' : Nat) (o5 o6 o7 : Option AV), CI A' → Lk A' S' → RR A' S' → sz' ≤ sz + 1 → sl' ≤ sl + 6 → Ez G 124 1789 [some (aR 70 (0 : Int)), some (aR 0 (0 : Int)), some (aR 20 (0 : Int)), some (aR 51 (0 : Int)), some (aI i), o5, o6, o7] [] S' sz' sl' (k + 10) Q) : Ez G 124 1487 [some (aR 70 (0 : Int)), some (aR 0 (0 : Int)), some (aR 20 (0 : Int)), some (aR 51 (0 : Int)), some (aI i), o5, o6, o7] [] S sz sl (k + 10) Q := by
  refine ez_rg (fun hg1 => ?_)
  refine ez_sg 6 (p := 0 ≤ (i + 1) ∧ (i + 1) < (G.xl : Int)) (pc' := 1494) (ls' := [some (aR 70 (0 : Int)), some (aR 0 (0 : Int)), some (aR 20 (0 : Int)), some (aR 51 (0 : Int)), some (aI i), o5, o6, o7]) (st' := [aI (scV G (i + 1)), aR 0 (0 : Int)]) (S' := S) rfl (by omega) ?_
  refine ez_sg 6 (p := 0 ≤ (i + 2) ∧ (i + 2) < (G.xl : Int)) (pc' := 1501) (ls' := [some (aR 70 (0 : Int)), some (aR 0 (0 : Int)), some (aR 20 (0 : Int)), some (aR 51 (0 : Int)), some (aI i), o5, o6, o7]) (st' := [aR 70 (0 : Int), aI (scV G (i + 2)), aI (scV G (i + 1)), aR 0 (0 : Int)]) (S' := S) rfl (by omega) ?_
  refine ez_sg 6 (p := 0 ≤ (i + 3) ∧ (i + 3) < (G.xl : Int)) (pc' := 1509) (ls' := [some (aR 70 (0 : Int)), some (aR 0 (0 : Int)), some (aR 20 (0 : Int)), some (aR 51 (0 : Int)), some (aI i), o5, o6, o7]) (st' := [aI i, aR 70 (0 : Int), aI (scV G (i + 3)), aI (scV G (i + 2)), aI (scV G (i + 1)), aR 0 (0 : Int)]) (S' := S) rfl (by omega) ?_
  refine ez_sg 6 (p := (0 ≤ (i + 4) ∧ (i + 4) < (G.xl : Int)) ∧ (r32 (scV G (i + 4)))) (pc' := 1516) (ls' := [some (aR 70 (0 : Int)), some (aR 0 (0 : Int)), some (aR 20 (0 : Int)), some (aR 51 (0 : Int)), some (aI i), o5, o6, o7]) (st' := [aL (lShl (scV G (i + 4)) (32 : Int)), aI (scV G (i + 3)), aI (scV G (i + 2)), aI (scV G (i + 1)), aR 0 (0 : Int)]) (S' := S) rfl ⟨(by omega), (r32_of _)⟩ ?_
  refine ez_sg 6 (p := (0 ≤ (i + 5) ∧ (i + 5) < (G.xl : Int)) ∧ (r32 (scV G (i + 5)))) (pc' := 1523) (ls' := [some (aR 70 (0 : Int)), some (aR 0 (0 : Int)), some (aR 20 (0 : Int)), some (aR 51 (0 : Int)), some (aI i), o5, o6, o7]) (st' := [aL (scV G (i + 5)), aL (lShl (scV G (i + 4)) (32 : Int)), aI (scV G (i + 3)), aI (scV G (i + 2)), aI (scV G (i + 1)), aR 0 (0 : Int)]) (S' := S) rfl ⟨(by omega), (r32_of _)⟩ ?_
  refine ez_s0 6 (pc' := 1533) (ls' := [some (aR 70 (0 : Int)), some (aR 0 (0 : Int)), some (aR 20 (0 : Int)), some (aR 51 (0 : Int)), some (aI i), o5, o6, o7]) (st' := [aI (6 : Int), aI i, aR 70 (0 : Int), aL (lOr (lShl (scV G (i + 4)) (32 : Int)) (lAnd (scV G (i + 5)) (4294967295 : Int))), aI (scV G (i + 3)), aI (scV G (i + 2)), aI (scV G (i + 1)), aR 0 (0 : Int)]) (S' := S) rfl ?_
  refine ez_sg 6 (p := (0 ≤ (i + 6) ∧ (i + 6) < (G.xl : Int)) ∧ (r32 (scV G (i + 6)))) (pc' := 1540) (ls' := [some (aR 70 (0 : Int)), some (aR 0 (0 : Int)), some (aR 20 (0 : Int)), some (aR 51 (0 : Int)), some (aI i), o5, o6, o7]) (st' := [aR 70 (0 : Int), aL (lShl (scV G (i + 6)) (32 : Int)), aL (lOr (lShl (scV G (i + 4)) (32 : Int)) (lAnd (scV G (i + 5)) (4294967295 : Int))), aI (scV G (i + 3)), aI (scV G (i + 2)), aI (scV G (i + 1)), aR 0 (0 : Int)]) (S' := S) rfl ⟨(by omega), (r32_of _)⟩ ?_
  refine ez_sg 6 (p := (0 ≤ (i + 7) ∧ (i + 7) < (G.xl : Int)) ∧ (r32 (scV G (i + 7)))) (pc' := 1550) (ls' := [some (aR 70 (0 : Int)), some (aR 0 (0 : Int)), some (aR 20 (0 : Int)), some (aR 51 (0 : Int)), some (aI i), o5, o6, o7]) (st' := [aL (4294967295 : Int), aL (scV G (i + 7)), aL (lShl (scV G (i + 6)) (32 : Int)), aL (lOr (lShl (scV G (i + 4)) (32 : Int)) (lAnd (scV G (i + 5)) (4294967295 : Int))), aI (scV G (i + 3)), aI (scV G (i + 2)), aI (scV G (i + 1)), aR 0 (0 : Int)]) (S' := S) rfl ⟨(by omega), (r32_of _)⟩ ?_
  refine ez_s0 3 (pc' := 1553) (ls' := [some (aR 70 (0 : Int)), some (aR 0 (0 : Int)), some (aR 20 (0 : Int)), some (aR 51 (0 : Int)), some (aI i), o5, o6, o7]) (st' := [aR 51 (0 : Int), aL (lOr (lShl (scV G (i + 6)) (32 : Int)) (lAnd (scV G (i + 7)) (4294967295 : Int))), aL (lOr (lShl (scV G (i + 4)) (32 : Int)) (lAnd (scV G (i + 5)) (4294967295 : Int))), aI (scV G (i + 3)), aI (scV G (i + 2)), aI (scV G (i + 1)), aR 0 (0 : Int)]) (S' := S) rfl ?_
  refine ez_callZ rfl rfl [aR 0 (0 : Int), aI (scV G (i + 1)), aI (scV G (i + 2)), aI (scV G (i + 3)), aL (lOr (lShl (scV G (i + 4)) (32 : Int)) (lAnd (scV G (i + 5)) (4294967295 : Int))), aL (lOr (lShl (scV G (i + 6)) (32 : Int)) (lAnd (scV G (i + 7)) (4294967295 : Int))), aR 51 (0 : Int)] [] rfl rfl (Nat.le_of_ble_eq_true rfl) (Nat.le_of_ble_eq_true rfl) (Nat.le_of_ble_eq_true rfl) ?_
  refine zArray (A := A) hL hA (by omega) (by omega) (m := (scV G (i + 1))) (w := (scV G (i + 2))) (rows := (scV G (i + 3))) (dx := (lOr (lShl (scV G (i + 4)) (32 : Int)) (lAnd (scV G (i + 5)) (4294967295 : Int)))) (dy := (lOr (lShl (scV G (i + 6)) (32 : Int)) (lAnd (scV G (i + 7)) (4294967295 : Int)))) (r32_of _) (r32_of _) (r32_of _) (r64_of _) (r64_of _) (fun S1 sz1 sl1 j1 j2 j3 j4 j5 => ⟨_, rfl, ?_⟩)
  have hci : CI (opArray A (scV G (i + 1)) (scV G (i + 2)) (scV G (i + 3)) (lOr (lShl (scV G (i + 4)) (32 : Int)) (lAnd (scV G (i + 5)) (4294967295 : Int))) (lOr (lShl (scV G (i + 6)) (32 : Int)) (lAnd (scV G (i + 7)) (4294967295 : Int)))).2.1 := opArray_ci hA
  generalize hop : opArray A (scV G (i + 1)) (scV G (i + 2)) (scV G (i + 3)) (lOr (lShl (scV G (i + 4)) (32 : Int)) (lAnd (scV G (i + 5)) (4294967295 : Int))) (lOr (lShl (scV G (i + 6)) (32 : Int)) (lAnd (scV G (i + 7)) (4294967295 : Int))) = oo at j1 j3 hci ⊢
  have hz : sz1 + 1 ≤ G.b0 + mm_mxC := by omega
  have hl : sl1 + 6 ≤ mm_mxS := by omega
  show Ez G 124 1556 [some (aR 70 (0 : Int)), some (aR 0 (0 : Int)), some (aR 20 (0 : Int)), some (aR 51 (0 : Int)), some (aI i), o5, o6, o7] [aI (oo.1)] S1 _ _ _ _
  refine ez_rg (fun hg2 => ?_)
  refine ez_s0 6 (pc' := 1564) (ls' := [some (aR 70 (0 : Int)), some (aR 0 (0 : Int)), some (aR 20 (0 : Int)), some (aR 51 (0 : Int)), some (aI i), some (aI (oo.1)), o6, o7]) (st' := [aI (i + 1), aR 70 (0 : Int), aR 20 (0 : Int)]) (S' := S1) rfl ?_
  refine ez_sg 6 (p := (0 ≤ (i + 1) ∧ (i + 1) < (G.xl : Int)) ∧ (0 ≤ (i + 2) ∧ (i + 2) < (G.xl : Int))) (pc' := 1571) (ls' := [some (aR 70 (0 : Int)), some (aR 0 (0 : Int)), some (aR 20 (0 : Int)), some (aR 51 (0 : Int)), some (aI i), some (aI (oo.1)), o6, o7]) (st' := [aI (scV G (i + 2)), aI (scV G (i + 1)), aR 20 (0 : Int)]) (S' := S1) rfl ⟨(by omega), (by omega)⟩ ?_
  refine ez_sg 6 (p := 0 ≤ (i + 3) ∧ (i + 3) < (G.xl : Int)) (pc' := 1578) (ls' := [some (aR 70 (0 : Int)), some (aR 0 (0 : Int)), some (aR 20 (0 : Int)), some (aR 51 (0 : Int)), some (aI i), some (aI (oo.1)), o6, o7]) (st' := [aR 70 (0 : Int), aI (scV G (i + 3)), aI (scV G (i + 2)), aI (scV G (i + 1)), aR 20 (0 : Int)]) (S' := S1) rfl (by omega) ?_
  refine ez_sg 6 (p := (0 ≤ (i + 4) ∧ (i + 4) < (G.xl : Int)) ∧ (r32 (scV G (i + 4)))) (pc' := 1586) (ls' := [some (aR 70 (0 : Int)), some (aR 0 (0 : Int)), some (aR 20 (0 : Int)), some (aR 51 (0 : Int)), some (aI i), some (aI (oo.1)), o6, o7]) (st' := [aI (32 : Int), aL (scV G (i + 4)), aI (scV G (i + 3)), aI (scV G (i + 2)), aI (scV G (i + 1)), aR 20 (0 : Int)]) (S' := S1) rfl ⟨(by omega), (r32_of _)⟩ ?_
  refine ez_sg 6 (p := 0 ≤ (i + 5) ∧ (i + 5) < (G.xl : Int)) (pc' := 1593) (ls' := [some (aR 70 (0 : Int)), some (aR 0 (0 : Int)), some (aR 20 (0 : Int)), some (aR 51 (0 : Int)), some (aI i), some (aI (oo.1)), o6, o7]) (st' := [aI (scV G (i + 5)), aL (lShl (scV G (i + 4)) (32 : Int)), aI (scV G (i + 3)), aI (scV G (i + 2)), aI (scV G (i + 1)), aR 20 (0 : Int)]) (S' := S1) rfl (by omega) ?_
  refine ez_sg 6 (p := r32 (scV G (i + 5))) (pc' := 1602) (ls' := [some (aR 70 (0 : Int)), some (aR 0 (0 : Int)), some (aR 20 (0 : Int)), some (aR 51 (0 : Int)), some (aI i), some (aI (oo.1)), o6, o7]) (st' := [aI i, aR 70 (0 : Int), aL (lOr (lShl (scV G (i + 4)) (32 : Int)) (lAnd (scV G (i + 5)) (4294967295 : Int))), aI (scV G (i + 3)), aI (scV G (i + 2)), aI (scV G (i + 1)), aR 20 (0 : Int)]) (S' := S1) rfl (r32_of _) ?_
  refine ez_sg 6 (p := (0 ≤ (i + 6) ∧ (i + 6) < (G.xl : Int)) ∧ (r32 (scV G (i + 6)))) (pc' := 1610) (ls' := [some (aR 70 (0 : Int)), some (aR 0 (0 : Int)), some (aR 20 (0 : Int)), some (aR 51 (0 : Int)), some (aI i), some (aI (oo.1)), o6, o7]) (st' := [aL (lShl (scV G (i + 6)) (32 : Int)), aL (lOr (lShl (scV G (i + 4)) (32 : Int)) (lAnd (scV G (i + 5)) (4294967295 : Int))), aI (scV G (i + 3)), aI (scV G (i + 2)), aI (scV G (i + 1)), aR 20 (0 : Int)]) (S' := S1) rfl ⟨(by omega), (r32_of _)⟩ ?_
  refine ez_sg 6 (p := (0 ≤ (i + 7) ∧ (i + 7) < (G.xl : Int)) ∧ (r32 (scV G (i + 7)))) (pc' := 1618) (ls' := [some (aR 70 (0 : Int)), some (aR 0 (0 : Int)), some (aR 20 (0 : Int)), some (aR 51 (0 : Int)), some (aI i), some (aI (oo.1)), o6, o7]) (st' := [aL (scV G (i + 7)), aL (lShl (scV G (i + 6)) (32 : Int)), aL (lOr (lShl (scV G (i + 4)) (32 : Int)) (lAnd (scV G (i + 5)) (4294967295 : Int))), aI (scV G (i + 3)), aI (scV G (i + 2)), aI (scV G (i + 1)), aR 20 (0 : Int)]) (S' := S1) rfl ⟨(by omega), (r32_of _)⟩ ?_
  refine ez_s0 3 (pc' := 1623) (ls' := [some (aR 70 (0 : Int)), some (aR 0 (0 : Int)), some (aR 20 (0 : Int)), some (aR 51 (0 : Int)), some (aI i), some (aI (oo.1)), o6, o7]) (st' := [aL (lOr (lShl (scV G (i + 6)) (32 : Int)) (lAnd (scV G (i + 7)) (4294967295 : Int))), aL (lOr (lShl (scV G (i + 4)) (32 : Int)) (lAnd (scV G (i + 5)) (4294967295 : Int))), aI (scV G (i + 3)), aI (scV G (i + 2)), aI (scV G (i + 1)), aR 20 (0 : Int)]) (S' := S1) rfl ?_
  refine ez_callV rfl rfl 20 (0 : Int) [aI (scV G (i + 1)), aI (scV G (i + 2)), aI (scV G (i + 3)), aL (lOr (lShl (scV G (i + 4)) (32 : Int)) (lAnd (scV G (i + 5)) (4294967295 : Int))), aL (lOr (lShl (scV G (i + 6)) (32 : Int)) (lAnd (scV G (i + 7)) (4294967295 : Int)))] [] rfl rfl rfl rfl (Nat.le_of_ble_eq_true rfl) (Nat.le_of_ble_eq_true rfl) (Nat.le_of_ble_eq_true rfl) hz hl ?_
  refine qArray (S := S1) (A := A) hA (hR.fq j2) (m := (scV G (i + 1))) (w := (scV G (i + 2))) (rows := (scV G (i + 3))) (dx := (lOr (lShl (scV G (i + 4)) (32 : Int)) (lAnd (scV G (i + 5)) (4294967295 : Int)))) (dy := (lOr (lShl (scV G (i + 6)) (32 : Int)) (lAnd (scV G (i + 7)) (4294967295 : Int)))) (r32_of _) (r32_of _) (r32_of _) (r64_of _) (r64_of _) (fun S2 r q1 q2 q3 q4 q5 => ?_)
  rw [hop] at q1 q3 q5
  have e51 : S2 51 0 0 = S1 51 0 0 := by rw [q2 51 (Or.inr rfl)]
  show Ez G 124 1626 [some (aR 70 (0 : Int)), some (aR 0 (0 : Int)), some (aR 20 (0 : Int)), some (aR 51 (0 : Int)), some (aI i), some (aI (oo.1)), o6, o7] [aI r] S2 _ _ _ _
  refine ez_rg (fun hg3 => ?_)
  have hoc : r32 oo.1 := by
    rw [← q3]
    exact rgI hg3 (t := 20) (i := (0 : Int)) (q := (0 : Int)) (by omega : 0 ≤ (0 : Int) ∧ (0 : Int) < 1) (by omega) rfl
  refine ez_s0 2 (pc' := 1629) (ls' := [some (aR 70 (0 : Int)), some (aR 0 (0 : Int)), some (aR 20 (0 : Int)), some (aR 51 (0 : Int)), some (aI i), some (aI (oo.1)), some (aI r), o7]) (st' := [aR 20 (0 : Int)]) (S' := S2) rfl ?_
  refine ez_callV rfl rfl 20 (0 : Int) [] [] rfl rfl rfl rfl (Nat.le_of_ble_eq_true rfl) (Nat.le_of_ble_eq_true rfl) (Nat.le_of_ble_eq_true rfl) hz hl ?_
  refine n15 (S := S2) ?_
  show Ez G 124 1632 [some (aR 70 (0 : Int)), some (aR 0 (0 : Int)), some (aR 20 (0 : Int)), some (aR 51 (0 : Int)), some (aI i), some (aI (oo.1)), some (aI r), o7] [aI (S2 20 0 0)] S2 _ _ _ _
  refine ez_s0 1 (pc' := 1634) (ls' := [some (aR 70 (0 : Int)), some (aR 0 (0 : Int)), some (aR 20 (0 : Int)), some (aR 51 (0 : Int)), some (aI i), some (aI (oo.1)), some (aI r), o7]) (st' := [aI (oo.1), aI (S2 20 0 0)]) (S' := S2) rfl ?_
  refine ez_icmp rfl 1639 rfl (rgI hg3 (t := 20) (i := (0 : Int)) (q := (0 : Int)) (by omega : 0 ≤ (0 : Int) ∧ (0 : Int) < 1) (by omega) rfl) hoc (fun (g1634 : (S2 20 0 0) = (oo.1)) => ?_) (fun (g1634 : ¬ ((S2 20 0 0) = (oo.1))) => ?_)
  · refine ez_s0 1 (pc' := 1641) (ls' := [some (aR 70 (0 : Int)), some (aR 0 (0 : Int)), some (aR 20 (0 : Int)), some (aR 51 (0 : Int)), some (aI i), some (aI (oo.1)), some (aI r), o7]) (st' := [aI (oo.1)]) (S' := S2) rfl ?_
    refine ez_if rfl 1656 rfl hoc (fun (g1641 : ¬ (oo.1) = (0 : Int)) => ?_) (fun (g1641 : ¬ (¬ (oo.1) = (0 : Int))) => ?_)
    · refine ez_s0 1 (pc' := 1789) (ls' := [some (aR 70 (0 : Int)), some (aR 0 (0 : Int)), some (aR 20 (0 : Int)), some (aR 51 (0 : Int)), some (aI i), some (aI (oo.1)), some (aI r), o7]) (st' := []) (S' := S2) rfl ?_
      exact hk oo.2.1 S2 sz1 sl1 _ _ _ hci (j1.fd q2) q1 (by omega) (by omega)
    · refine ez_sg 5 (p := (((0 : Int) = 0) ∧ (0 ≤ (0 : Int) ∧ (0 : Int) < 1)) ∧ (r32 r)) (pc' := 1650) (ls' := [some (aR 70 (0 : Int)), some (aR 0 (0 : Int)), some (aR 20 (0 : Int)), some (aR 51 (0 : Int)), some (aI i), some (aI (oo.1)), some (aI r), o7]) (st' := [aL r, aL (S2 51 0 0)]) (S' := S2) rfl ⟨⟨rfl, (by omega)⟩, ⟨by have := q4.1; omega, by have := q4.2; omega⟩⟩ ?_
      refine ez_lif rfl rfl 1656 rfl (rgL hg3 (t := 51) (i := (0 : Int)) (q := (0 : Int)) (by omega : 0 ≤ (0 : Int) ∧ (0 : Int) < 1) (by omega) rfl) ⟨by have := q4.1; omega, by have := q4.2; omega⟩ (fun (g1650 : (S2 51 0 0) = r) => ?_) (fun (g1650 : ¬ ((S2 51 0 0) = r)) => ?_)
      · refine ez_s0 1 (pc' := 1789) (ls' := [some (aR 70 (0 : Int)), some (aR 0 (0 : Int)), some (aR 20 (0 : Int)), some (aR 51 (0 : Int)), some (aI i), some (aI (oo.1)), some (aI r), o7]) (st' := []) (S' := S2) rfl ?_
        exact hk oo.2.1 S2 sz1 sl1 _ _ _ hci (j1.fd q2) q1 (by omega) (by omega)
      · refine ez_s0 1 (pc' := 1655) (ls' := [some (aR 70 (0 : Int)), some (aR 0 (0 : Int)), some (aR 20 (0 : Int)), some (aR 51 (0 : Int)), some (aI i), some (aI (oo.1)), some (aI r), o7]) (st' := [aI (0 : Int)]) (S' := S2) rfl ?_
        refine ez_iret rfl rfl rfl (Or.inr ⟨rfl, (by decide)⟩) ?_
        exfalso; omega
  · refine ez_s0 1 (pc' := 1638) (ls' := [some (aR 70 (0 : Int)), some (aR 0 (0 : Int)), some (aR 20 (0 : Int)), some (aR 51 (0 : Int)), some (aI i), some (aI (oo.1)), some (aI r), o7]) (st' := [aI (0 : Int)]) (S' := S2) rfl ?_
    refine ez_iret rfl rfl rfl (Or.inr ⟨rfl, (by decide)⟩) ?_
    exfalso; omega
theorem lawMirr {G : Gw} {S : Sg} {sz sl k : Nat} {Q : ZQ} {A : Sg} {i : Int} {o5 o6 o7 : Option AV} (hi : 0 ≤ i ∧ i + 9 ≤ (G.xl : Int)) (hx : G.xl ≤ 4608) (hA : CI A) (hL : Lk A S) (hR : RR A S) (hza : sz + 2 ≤ G.b0 + mm_mxC) (hla : sl + 12 ≤ mm_mxS) (hk : ∀ (A' S' : Sg) (sz' sl' : Nat) (o5 o6 o7 : Option AV), CI A' → Lk A' S' → RR A' S' → sz' ≤ sz + 1 → sl' ≤ sl + 6 → Ez G 124 1789 [some (aR 70 (0 : Int)), some (aR 0 (0 : Int)), some (aR 20 (0 : Int)), some (aR 51 (0 : Int)), some (aI i), o5, o6, o7] [] S' sz' sl' (k + 10) Q) : Ez G 124 1659 [some (aR 70 (0 : Int)), some (aR 0 (0 : Int)), some (aR 20 (0 : Int)), some (aR 51 (0 : Int)), some (aI i), o5, o6, o7] [] S sz sl (k + 10) Q := by
  refine ez_rg (fun hgm => ?_)
  have hzm : ∀ c, 0 ≤ c ∧ c < 20 → A 2 c 4 = 0 ∨ A 2 c 4 = 1 := fun c q => by
    have := rgZ hgm (t := 2) (i := c) (q := 4) (by omega : 0 ≤ c ∧ c < 20) (by omega) rfl
    rw [hL 2 (by decide)] at this
    exact this
  refine ez_rg (fun hg1 => ?_)
  refine ez_sg 6 (p := 0 ≤ (i + 1) ∧ (i + 1) < (G.xl : Int)) (pc' := 1666) (ls' := [some (aR 70 (0 : Int)), some (aR 0 (0 : Int)), some (aR 20 (0 : Int)), some (aR 51 (0 : Int)), some (aI i), o5, o6, o7]) (st' := [aI (scV G (i + 1)), aR 0 (0 : Int)]) (S' := S) rfl (by omega) ?_
  refine ez_s0 1 (pc' := 1667) (ls' := [some (aR 70 (0 : Int)), some (aR 0 (0 : Int)), some (aR 20 (0 : Int)), some (aR 51 (0 : Int)), some (aI i), o5, o6, o7]) (st' := [aR 51 (0 : Int), aI (scV G (i + 1)), aR 0 (0 : Int)]) (S' := S) rfl ?_
  refine ez_callZ rfl rfl [aR 0 (0 : Int), aI (scV G (i + 1)), aR 51 (0 : Int)] [] rfl rfl (Nat.le_of_ble_eq_true rfl) (Nat.le_of_ble_eq_true rfl) (Nat.le_of_ble_eq_true rfl) ?_
  refine zMirr (A := A) hL hA (by omega) (by omega) (c := (scV G (i + 1))) (r32_of _) (fun S1 sz1 sl1 j1 j2 j3 j4 j5 => ⟨_, rfl, ?_⟩)
  have hci : CI (opMirr A (scV G (i + 1))).2.1 := opMirr_ci hA (hzm _)
  have hbv := opMirr_v (A := A) (c := (scV G (i + 1)))
  generalize hop : opMirr A (scV G (i + 1)) = oo at j1 j3 hci hbv ⊢
  have hz : sz1 + 1 ≤ G.b0 + mm_mxC := by omega
  have hl : sl1 + 6 ≤ mm_mxS := by omega
  show Ez G 124 1670 [some (aR 70 (0 : Int)), some (aR 0 (0 : Int)), some (aR 20 (0 : Int)), some (aR 51 (0 : Int)), some (aI i), o5, o6, o7] [aI (oo.1)] S1 _ _ _ _
  refine ez_rg (fun hg2 => ?_)
  refine ez_s0 6 (pc' := 1678) (ls' := [some (aR 70 (0 : Int)), some (aR 0 (0 : Int)), some (aR 20 (0 : Int)), some (aR 51 (0 : Int)), some (aI i), some (aI (oo.1)), o6, o7]) (st' := [aI (i + 1), aR 70 (0 : Int), aR 20 (0 : Int)]) (S' := S1) rfl ?_
  refine ez_sg 1 (p := 0 ≤ (i + 1) ∧ (i + 1) < (G.xl : Int)) (pc' := 1679) (ls' := [some (aR 70 (0 : Int)), some (aR 0 (0 : Int)), some (aR 20 (0 : Int)), some (aR 51 (0 : Int)), some (aI i), some (aI (oo.1)), o6, o7]) (st' := [aI (scV G (i + 1)), aR 20 (0 : Int)]) (S' := S1) rfl (by omega) ?_
  refine ez_callV rfl rfl 20 (0 : Int) [aI (scV G (i + 1))] [] rfl rfl rfl rfl (Nat.le_of_ble_eq_true rfl) (Nat.le_of_ble_eq_true rfl) (Nat.le_of_ble_eq_true rfl) hz hl ?_
  refine qMirr (S := S1) (A := A) hA (hR.fq j2) (c := (scV G (i + 1))) (r32_of _) (fun S2 r q1 q2 q3 q4 q5 => ?_)
  rw [hop] at q1 q3 q5
  have e51 : S2 51 0 0 = S1 51 0 0 := by rw [q2 51 (Or.inr rfl)]
  show Ez G 124 1682 [some (aR 70 (0 : Int)), some (aR 0 (0 : Int)), some (aR 20 (0 : Int)), some (aR 51 (0 : Int)), some (aI i), some (aI (oo.1)), o6, o7] [aI r] S2 _ _ _ _
  refine ez_rg (fun hg3 => ?_)
  have hoc : r32 oo.1 := by
    rw [← q3]
    exact rgI hg3 (t := 20) (i := (0 : Int)) (q := (0 : Int)) (by omega : 0 ≤ (0 : Int) ∧ (0 : Int) < 1) (by omega) rfl
  refine ez_s0 2 (pc' := 1685) (ls' := [some (aR 70 (0 : Int)), some (aR 0 (0 : Int)), some (aR 20 (0 : Int)), some (aR 51 (0 : Int)), some (aI i), some (aI (oo.1)), some (aI r), o7]) (st' := [aR 20 (0 : Int)]) (S' := S2) rfl ?_
  refine ez_callV rfl rfl 20 (0 : Int) [] [] rfl rfl rfl rfl (Nat.le_of_ble_eq_true rfl) (Nat.le_of_ble_eq_true rfl) (Nat.le_of_ble_eq_true rfl) hz hl ?_
  refine n15 (S := S2) ?_
  show Ez G 124 1688 [some (aR 70 (0 : Int)), some (aR 0 (0 : Int)), some (aR 20 (0 : Int)), some (aR 51 (0 : Int)), some (aI i), some (aI (oo.1)), some (aI r), o7] [aI (S2 20 0 0)] S2 _ _ _ _
  refine ez_s0 1 (pc' := 1690) (ls' := [some (aR 70 (0 : Int)), some (aR 0 (0 : Int)), some (aR 20 (0 : Int)), some (aR 51 (0 : Int)), some (aI i), some (aI (oo.1)), some (aI r), o7]) (st' := [aI (oo.1), aI (S2 20 0 0)]) (S' := S2) rfl ?_
  refine ez_icmp rfl 1695 rfl (rgI hg3 (t := 20) (i := (0 : Int)) (q := (0 : Int)) (by omega : 0 ≤ (0 : Int) ∧ (0 : Int) < 1) (by omega) rfl) hoc (fun (g1690 : (S2 20 0 0) = (oo.1)) => ?_) (fun (g1690 : ¬ ((S2 20 0 0) = (oo.1))) => ?_)
  · refine ez_s0 1 (pc' := 1697) (ls' := [some (aR 70 (0 : Int)), some (aR 0 (0 : Int)), some (aR 20 (0 : Int)), some (aR 51 (0 : Int)), some (aI i), some (aI (oo.1)), some (aI r), o7]) (st' := [aI (oo.1)]) (S' := S2) rfl ?_
    refine ez_if rfl 1719 rfl hoc (fun (g1697 : ¬ (oo.1) = (0 : Int)) => ?_) (fun (g1697 : ¬ (¬ (oo.1) = (0 : Int))) => ?_)
    · refine ez_s0 1 (pc' := 1789) (ls' := [some (aR 70 (0 : Int)), some (aR 0 (0 : Int)), some (aR 20 (0 : Int)), some (aR 51 (0 : Int)), some (aI i), some (aI (oo.1)), some (aI r), o7]) (st' := []) (S' := S2) rfl ?_
      exact hk oo.2.1 S2 sz1 sl1 _ _ _ hci (j1.fd q2) q1 (by omega) (by omega)
    · refine ez_sg 4 (p := ((0 : Int) = 0) ∧ (0 ≤ (0 : Int) ∧ (0 : Int) < 1)) (pc' := 1705) (ls' := [some (aR 70 (0 : Int)), some (aR 0 (0 : Int)), some (aR 20 (0 : Int)), some (aR 51 (0 : Int)), some (aI i), some (aI (oo.1)), some (aI r), o7]) (st' := [aI r, aL (S2 51 0 0)]) (S' := S2) rfl ⟨rfl, (by omega)⟩ ?_
      refine ez_if rfl 1712 rfl ⟨by have := q4.1; omega, by have := q4.2; omega⟩ (fun (g1705 : r = (0 : Int)) => ?_) (fun (g1705 : ¬ (r = (0 : Int))) => ?_)
      · refine ez_s0 1 (pc' := 1713) (ls' := [some (aR 70 (0 : Int)), some (aR 0 (0 : Int)), some (aR 20 (0 : Int)), some (aR 51 (0 : Int)), some (aI i), some (aI (oo.1)), some (aI r), o7]) (st' := [aL (0 : Int), aL (S2 51 0 0)]) (S' := S2) rfl ?_
        refine ez_lif rfl rfl 1719 rfl (rgL hg3 (t := 51) (i := (0 : Int)) (q := (0 : Int)) (by omega : 0 ≤ (0 : Int) ∧ (0 : Int) < 1) (by omega) rfl) ⟨by decide, by decide⟩ (fun (g1713 : (S2 51 0 0) = (0 : Int)) => ?_) (fun (g1713 : ¬ ((S2 51 0 0) = (0 : Int))) => ?_)
        · refine ez_s0 1 (pc' := 1789) (ls' := [some (aR 70 (0 : Int)), some (aR 0 (0 : Int)), some (aR 20 (0 : Int)), some (aR 51 (0 : Int)), some (aI i), some (aI (oo.1)), some (aI r), o7]) (st' := []) (S' := S2) rfl ?_
          exact hk oo.2.1 S2 sz1 sl1 _ _ _ hci (j1.fd q2) q1 (by omega) (by omega)
        · refine ez_s0 1 (pc' := 1718) (ls' := [some (aR 70 (0 : Int)), some (aR 0 (0 : Int)), some (aR 20 (0 : Int)), some (aR 51 (0 : Int)), some (aI i), some (aI (oo.1)), some (aI r), o7]) (st' := [aI (0 : Int)]) (S' := S2) rfl ?_
          refine ez_iret rfl rfl rfl (Or.inr ⟨rfl, (by decide)⟩) ?_
          exfalso; omega
      · refine ez_s0 2 (pc' := 1713) (ls' := [some (aR 70 (0 : Int)), some (aR 0 (0 : Int)), some (aR 20 (0 : Int)), some (aR 51 (0 : Int)), some (aI i), some (aI (oo.1)), some (aI r), o7]) (st' := [aL (1 : Int), aL (S2 51 0 0)]) (S' := S2) rfl ?_
        refine ez_lif rfl rfl 1719 rfl (rgL hg3 (t := 51) (i := (0 : Int)) (q := (0 : Int)) (by omega : 0 ≤ (0 : Int) ∧ (0 : Int) < 1) (by omega) rfl) ⟨by decide, by decide⟩ (fun (g1713 : (S2 51 0 0) = (1 : Int)) => ?_) (fun (g1713 : ¬ ((S2 51 0 0) = (1 : Int))) => ?_)
        · refine ez_s0 1 (pc' := 1789) (ls' := [some (aR 70 (0 : Int)), some (aR 0 (0 : Int)), some (aR 20 (0 : Int)), some (aR 51 (0 : Int)), some (aI i), some (aI (oo.1)), some (aI r), o7]) (st' := []) (S' := S2) rfl ?_
          exact hk oo.2.1 S2 sz1 sl1 _ _ _ hci (j1.fd q2) q1 (by omega) (by omega)
        · refine ez_s0 1 (pc' := 1718) (ls' := [some (aR 70 (0 : Int)), some (aR 0 (0 : Int)), some (aR 20 (0 : Int)), some (aR 51 (0 : Int)), some (aI i), some (aI (oo.1)), some (aI r), o7]) (st' := [aI (0 : Int)]) (S' := S2) rfl ?_
          refine ez_iret rfl rfl rfl (Or.inr ⟨rfl, (by decide)⟩) ?_
          exfalso; omega
  · refine ez_s0 1 (pc' := 1694) (ls' := [some (aR 70 (0 : Int)), some (aR 0 (0 : Int)), some (aR 20 (0 : Int)), some (aR 51 (0 : Int)), some (aI i), some (aI (oo.1)), some (aI r), o7]) (st' := [aI (0 : Int)]) (S' := S2) rfl ?_
    refine ez_iret rfl rfl rfl (Or.inr ⟨rfl, (by decide)⟩) ?_
    exfalso; omega
theorem lawAt {G : Gw} {S : Sg} {sz sl k : Nat} {Q : ZQ} {A : Sg} {i : Int} {o5 o6 o7 : Option AV} (hi : 0 ≤ i ∧ i + 9 ≤ (G.xl : Int)) (hx : G.xl ≤ 4608) (hA : CI A) (hL : Lk A S) (hR : RR A S) (hza : sz + 2 ≤ G.b0 + mm_mxC) (hla : sl + 12 ≤ mm_mxS) (hk : ∀ (A' S' : Sg) (sz' sl' : Nat) (o5 o6 o7 : Option AV), CI A' → Lk A' S' → RR A' S' → sz' ≤ sz + 1 → sl' ≤ sl + 6 → Ez G 124 1789 [some (aR 70 (0 : Int)), some (aR 0 (0 : Int)), some (aR 20 (0 : Int)), some (aR 51 (0 : Int)), some (aI i), o5, o6, o7] [] S' sz' sl' (k + 10) Q) : Ez G 124 1722 [some (aR 70 (0 : Int)), some (aR 0 (0 : Int)), some (aR 20 (0 : Int)), some (aR 51 (0 : Int)), some (aI i), o5, o6, o7] [] S sz sl (k + 10) Q := by
  refine ez_rg (fun hg1 => ?_)
  refine ez_sg 6 (p := 0 ≤ (i + 1) ∧ (i + 1) < (G.xl : Int)) (pc' := 1729) (ls' := [some (aR 70 (0 : Int)), some (aR 0 (0 : Int)), some (aR 20 (0 : Int)), some (aR 51 (0 : Int)), some (aI i), o5, o6, o7]) (st' := [aI (scV G (i + 1)), aR 0 (0 : Int)]) (S' := S) rfl (by omega) ?_
  refine ez_sg 6 (p := 0 ≤ (i + 2) ∧ (i + 2) < (G.xl : Int)) (pc' := 1736) (ls' := [some (aR 70 (0 : Int)), some (aR 0 (0 : Int)), some (aR 20 (0 : Int)), some (aR 51 (0 : Int)), some (aI i), o5, o6, o7]) (st' := [aR 51 (0 : Int), aI (scV G (i + 2)), aI (scV G (i + 1)), aR 0 (0 : Int)]) (S' := S) rfl (by omega) ?_
  refine ez_callZ rfl rfl [aR 0 (0 : Int), aI (scV G (i + 1)), aI (scV G (i + 2)), aR 51 (0 : Int)] [] rfl rfl (Nat.le_of_ble_eq_true rfl) (Nat.le_of_ble_eq_true rfl) (Nat.le_of_ble_eq_true rfl) ?_
  refine zAt (A := A) hL hA (by omega) (by omega) (p := (scV G (i + 1))) (a := (scV G (i + 2))) (r32_of _) (r32_of _) (fun S1 sz1 sl1 j1 j2 j3 j4 j5 => ⟨_, rfl, ?_⟩)
  have hci : CI (opAt A (scV G (i + 1)) (scV G (i + 2))).2.1 := opAt_ci hA
  generalize hop : opAt A (scV G (i + 1)) (scV G (i + 2)) = oo at j1 j3 hci ⊢
  have hz : sz1 + 1 ≤ G.b0 + mm_mxC := by omega
  have hl : sl1 + 6 ≤ mm_mxS := by omega
  show Ez G 124 1739 [some (aR 70 (0 : Int)), some (aR 0 (0 : Int)), some (aR 20 (0 : Int)), some (aR 51 (0 : Int)), some (aI i), o5, o6, o7] [aI (oo.1)] S1 _ _ _ _
  refine ez_rg (fun hg2 => ?_)
  refine ez_s0 6 (pc' := 1747) (ls' := [some (aR 70 (0 : Int)), some (aR 0 (0 : Int)), some (aR 20 (0 : Int)), some (aR 51 (0 : Int)), some (aI i), some (aI (oo.1)), o6, o7]) (st' := [aI (i + 1), aR 70 (0 : Int), aR 20 (0 : Int)]) (S' := S1) rfl ?_
  refine ez_sg 6 (p := (0 ≤ (i + 1) ∧ (i + 1) < (G.xl : Int)) ∧ (0 ≤ (i + 2) ∧ (i + 2) < (G.xl : Int))) (pc' := 1754) (ls' := [some (aR 70 (0 : Int)), some (aR 0 (0 : Int)), some (aR 20 (0 : Int)), some (aR 51 (0 : Int)), some (aI i), some (aI (oo.1)), o6, o7]) (st' := [aI (scV G (i + 2)), aI (scV G (i + 1)), aR 20 (0 : Int)]) (S' := S1) rfl ⟨(by omega), (by omega)⟩ ?_
  refine ez_callV rfl rfl 20 (0 : Int) [aI (scV G (i + 1)), aI (scV G (i + 2))] [] rfl rfl rfl rfl (Nat.le_of_ble_eq_true rfl) (Nat.le_of_ble_eq_true rfl) (Nat.le_of_ble_eq_true rfl) hz hl ?_
  refine qAt (S := S1) (A := A) hA (hR.fq j2) (p := (scV G (i + 1))) (a := (scV G (i + 2))) (r32_of _) (r32_of _) (fun S2 r q1 q2 q3 q4 q5 => ?_)
  rw [hop] at q1 q3 q5
  have e51 : S2 51 0 0 = S1 51 0 0 := by rw [q2 51 (Or.inr rfl)]
  show Ez G 124 1757 [some (aR 70 (0 : Int)), some (aR 0 (0 : Int)), some (aR 20 (0 : Int)), some (aR 51 (0 : Int)), some (aI i), some (aI (oo.1)), o6, o7] [aL r] S2 _ _ _ _
  refine ez_rg (fun hg3 => ?_)
  have hoc : r32 oo.1 := by
    rw [← q3]
    exact rgI hg3 (t := 20) (i := (0 : Int)) (q := (0 : Int)) (by omega : 0 ≤ (0 : Int) ∧ (0 : Int) < 1) (by omega) rfl
  refine ez_s0 2 (pc' := 1760) (ls' := [some (aR 70 (0 : Int)), some (aR 0 (0 : Int)), some (aR 20 (0 : Int)), some (aR 51 (0 : Int)), some (aI i), some (aI (oo.1)), some (aL r), none]) (st' := [aR 20 (0 : Int)]) (S' := S2) rfl ?_
  refine ez_callV rfl rfl 20 (0 : Int) [] [] rfl rfl rfl rfl (Nat.le_of_ble_eq_true rfl) (Nat.le_of_ble_eq_true rfl) (Nat.le_of_ble_eq_true rfl) hz hl ?_
  refine n15 (S := S2) ?_
  show Ez G 124 1763 [some (aR 70 (0 : Int)), some (aR 0 (0 : Int)), some (aR 20 (0 : Int)), some (aR 51 (0 : Int)), some (aI i), some (aI (oo.1)), some (aL r), none] [aI (S2 20 0 0)] S2 _ _ _ _
  refine ez_s0 1 (pc' := 1765) (ls' := [some (aR 70 (0 : Int)), some (aR 0 (0 : Int)), some (aR 20 (0 : Int)), some (aR 51 (0 : Int)), some (aI i), some (aI (oo.1)), some (aL r), none]) (st' := [aI (oo.1), aI (S2 20 0 0)]) (S' := S2) rfl ?_
  refine ez_icmp rfl 1770 rfl (rgI hg3 (t := 20) (i := (0 : Int)) (q := (0 : Int)) (by omega : 0 ≤ (0 : Int) ∧ (0 : Int) < 1) (by omega) rfl) hoc (fun (g1765 : (S2 20 0 0) = (oo.1)) => ?_) (fun (g1765 : ¬ ((S2 20 0 0) = (oo.1))) => ?_)
  · refine ez_s0 1 (pc' := 1772) (ls' := [some (aR 70 (0 : Int)), some (aR 0 (0 : Int)), some (aR 20 (0 : Int)), some (aR 51 (0 : Int)), some (aI i), some (aI (oo.1)), some (aL r), none]) (st' := [aI (oo.1)]) (S' := S2) rfl ?_
    refine ez_if rfl 1786 rfl hoc (fun (g1772 : ¬ (oo.1) = (0 : Int)) => ?_) (fun (g1772 : ¬ (¬ (oo.1) = (0 : Int))) => ?_)
    · refine ez_s0 1 (pc' := 1789) (ls' := [some (aR 70 (0 : Int)), some (aR 0 (0 : Int)), some (aR 20 (0 : Int)), some (aR 51 (0 : Int)), some (aI i), some (aI (oo.1)), some (aL r), none]) (st' := []) (S' := S2) rfl ?_
      exact hk oo.2.1 S2 sz1 sl1 _ _ _ hci (j1.fd q2) q1 (by omega) (by omega)
    · refine ez_sg 4 (p := ((0 : Int) = 0) ∧ (0 ≤ (0 : Int) ∧ (0 : Int) < 1)) (pc' := 1780) (ls' := [some (aR 70 (0 : Int)), some (aR 0 (0 : Int)), some (aR 20 (0 : Int)), some (aR 51 (0 : Int)), some (aI i), some (aI (oo.1)), some (aL r), none]) (st' := [aL r, aL (S2 51 0 0)]) (S' := S2) rfl ⟨rfl, (by omega)⟩ ?_
      refine ez_lif rfl rfl 1786 rfl (rgL hg3 (t := 51) (i := (0 : Int)) (q := (0 : Int)) (by omega : 0 ≤ (0 : Int) ∧ (0 : Int) < 1) (by omega) rfl) q4 (fun (g1780 : (S2 51 0 0) = r) => ?_) (fun (g1780 : ¬ ((S2 51 0 0) = r)) => ?_)
      · refine ez_s0 1 (pc' := 1789) (ls' := [some (aR 70 (0 : Int)), some (aR 0 (0 : Int)), some (aR 20 (0 : Int)), some (aR 51 (0 : Int)), some (aI i), some (aI (oo.1)), some (aL r), none]) (st' := []) (S' := S2) rfl ?_
        exact hk oo.2.1 S2 sz1 sl1 _ _ _ hci (j1.fd q2) q1 (by omega) (by omega)
      · refine ez_s0 1 (pc' := 1785) (ls' := [some (aR 70 (0 : Int)), some (aR 0 (0 : Int)), some (aR 20 (0 : Int)), some (aR 51 (0 : Int)), some (aI i), some (aI (oo.1)), some (aL r), none]) (st' := [aI (0 : Int)]) (S' := S2) rfl ?_
        refine ez_iret rfl rfl rfl (Or.inr ⟨rfl, (by decide)⟩) ?_
        exfalso; omega
  · refine ez_s0 1 (pc' := 1769) (ls' := [some (aR 70 (0 : Int)), some (aR 0 (0 : Int)), some (aR 20 (0 : Int)), some (aR 51 (0 : Int)), some (aI i), some (aI (oo.1)), some (aL r), none]) (st' := [aI (0 : Int)]) (S' := S2) rfl ?_
    refine ez_iret rfl rfl rfl (Or.inr ⟨rfl, (by decide)⟩) ?_
    exfalso; omega
