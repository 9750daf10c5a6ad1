/-! THE REFERENCE: copies -/
theorem n60 {G : Gw} {S : Sg} {k : Nat} {Q : AQ} {A : Sg} (hA : CI A) (hR : RR A S) {c o : Int} (hc : 0 ≤ c ∧ c < A 0 0 6) (ho : 0 ≤ o ∧ o < A 0 0 5) (hn : near A o) (hlt : A 0 0 5 < 60) (h : ∀ S' : Sg, RR (fJoin (fMv (fPart A (A 1 o 0) (A 1 o 1)) (A 0 0 5) (pX A c o) (pY A c o) (pT A c o)) c (A 0 0 5) (A 1 o 6)) S' → Fc S S' → Q (.inl none) S') : Es G 60 0 (aEnt 4 [aR 20 (0 : Int), aI c, aI o]) [] S (k + 2) Q := by
  have n1 := hA.1.1
  have n2 := hA.1.2.1
  have n3 := hA.1.2.2
  have e1 : S 20 0 1 = A 0 0 5 := hR.1.1
  have e10 : S 20 0 10 = A 0 0 6 := hR.1.2.1
  have e17 : S 20 0 17 = A 0 0 7 := hR.1.2.2
  obtain ⟨a1, a2, a3, a4, a5, a6⟩ := hR.2.1 o ho.1 (by omega)
  have hpb := pose_b (c := c) (hA.2.2.1 c hc.1 (by omega)).1 (hA.2.1 o ho.1 (by omega)).1 hn
  refine es_rg (fun hg1 => ?_)
  refine es_s0 3 (pc' := 3) (ls' := [some (aR 20 (0 : Int)), some (aI c), some (aI o), none]) (st' := [aI o, aI c, aR 20 (0 : Int)]) (S' := S) rfl ?_
  refine es_callV rfl rfl 20 (0 : Int) [aI c, aI o] [] rfl rfl rfl rfl (Nat.le_of_ble_eq_true rfl) (Nat.le_of_ble_eq_true rfl) (Nat.le_of_ble_eq_true rfl) ?_
  refine n59 (S := S) (A := A) hA hR (c := c) (o := o) (by omega) (by omega) hn ?_
  show Es G 60 6 [some (aR 20 (0 : Int)), some (aI c), some (aI o), none] [] (su (su (su S 20 0 23 (pX A c o)) 20 0 24 (pY A c o)) 20 0 25 (pT A c o)) _ _
  refine es_rg (fun hg2 => ?_)
  refine es_sg 6 (p := ((0 : Int) = 0) ∧ ((0 : Int) = 0)) (pc' := 16) (ls' := [some (aR 20 (0 : Int)), some (aI c), some (aI o), some (aI (S 20 0 1))]) (st' := [aR 22 (0 : Int), aR 20 (0 : Int)]) (S' := su (su (su S 20 0 23 (pX A c o)) 20 0 24 (pY A c o)) 20 0 25 (pT A c o)) rfl ⟨rfl, rfl⟩ ?_
  refine es_sg 6 (p := (((0 : Int) = 0) ∧ (0 ≤ o ∧ o < 60)) ∧ (((0 : Int) = 0) ∧ (((0 : Int) = 0) ∧ (0 ≤ o ∧ o < 60)))) (pc' := 24) (ls' := [some (aR 20 (0 : Int)), some (aI c), some (aI o), some (aI (S 20 0 1))]) (st' := [aL (S 23 0 o), aL (S 22 0 o), aR 20 (0 : Int)]) (S' := su (su (su S 20 0 23 (pX A c o)) 20 0 24 (pY A c o)) 20 0 25 (pT A c o)) rfl ⟨⟨rfl, (by omega)⟩, rfl, ⟨rfl, (by omega)⟩⟩ ?_
  refine es_callV rfl rfl 20 (0 : Int) [aL (S 22 0 o), aL (S 23 0 o)] [] rfl rfl rfl rfl (Nat.le_of_ble_eq_true rfl) (Nat.le_of_ble_eq_true rfl) (Nat.le_of_ble_eq_true rfl) ?_
  refine n13 (S := su (su (su S 20 0 23 (pX A c o)) 20 0 24 (pY A c o)) 20 0 25 (pT A c o)) (w := (S 22 0 o)) (h := (S 23 0 o)) (show 0 ≤ S 20 0 1 ∧ S 20 0 1 < 60 from by omega) (rgL hg1 (t := 22) (i := (0 : Int)) (q := o) (by omega : 0 ≤ (0 : Int) ∧ (0 : Int) < 1) (by omega) rfl) (rgL hg1 (t := 23) (i := (0 : Int)) (q := o) (by omega : 0 ≤ (0 : Int) ∧ (0 : Int) < 1) (by omega) rfl) ?_
  show Es G 60 27 [some (aR 20 (0 : Int)), some (aI c), some (aI o), some (aI (S 20 0 1))] [] (su (su (su (su (su (su (su (su S 20 0 23 (pX A c o)) 20 0 24 (pY A c o)) 20 0 25 (pT A c o)) 22 0 (S 20 0 1) (S 22 0 o)) 23 0 (S 20 0 1) (S 23 0 o)) 27 0 (S 20 0 1) (-1)) 28 0 (S 20 0 1) (-1)) 20 0 1 ((S 20 0 1) + 1)) _ _
  refine es_rg (fun hg3 => ?_)
  refine es_sg 6 (p := ((0 : Int) = 0) ∧ ((0 : Int) = 0)) (pc' := 37) (ls' := [some (aR 20 (0 : Int)), some (aI c), some (aI o), some (aI (S 20 0 1))]) (st' := [aL (pY A c o), aL (pX A c o), aI (S 20 0 1), aR 20 (0 : Int)]) (S' := su (su (su (su (su (su (su (su S 20 0 23 (pX A c o)) 20 0 24 (pY A c o)) 20 0 25 (pT A c o)) 22 0 (S 20 0 1) (S 22 0 o)) 23 0 (S 20 0 1) (S 23 0 o)) 27 0 (S 20 0 1) (-1)) 28 0 (S 20 0 1) (-1)) 20 0 1 ((S 20 0 1) + 1)) rfl ⟨rfl, rfl⟩ ?_
  refine es_sg 2 (p := (0 : Int) = 0) (pc' := 41) (ls' := [some (aR 20 (0 : Int)), some (aI c), some (aI o), some (aI (S 20 0 1))]) (st' := [aI (pT A c o), aL (pY A c o), aL (pX A c o), aI (S 20 0 1), aR 20 (0 : Int)]) (S' := su (su (su (su (su (su (su (su S 20 0 23 (pX A c o)) 20 0 24 (pY A c o)) 20 0 25 (pT A c o)) 22 0 (S 20 0 1) (S 22 0 o)) 23 0 (S 20 0 1) (S 23 0 o)) 27 0 (S 20 0 1) (-1)) 28 0 (S 20 0 1) (-1)) 20 0 1 ((S 20 0 1) + 1)) rfl rfl ?_
  refine es_callV rfl rfl 20 (0 : Int) [aI (S 20 0 1), aL (pX A c o), aL (pY A c o), aI (pT A c o)] [] rfl rfl rfl rfl (Nat.le_of_ble_eq_true rfl) (Nat.le_of_ble_eq_true rfl) (Nat.le_of_ble_eq_true rfl) ?_
  refine n27 (S := su (su (su (su (su (su (su (su S 20 0 23 (pX A c o)) 20 0 24 (pY A c o)) 20 0 25 (pT A c o)) 22 0 (S 20 0 1) (S 22 0 o)) 23 0 (S 20 0 1) (S 23 0 o)) 27 0 (S 20 0 1) (-1)) 28 0 (S 20 0 1) (-1)) 20 0 1 ((S 20 0 1) + 1)) (i := (S 20 0 1)) (x := (pX A c o)) (y := (pY A c o)) (t := (pT A c o)) (by omega) ⟨by omega, by omega⟩ ⟨by omega, by omega⟩ ⟨by omega, by omega⟩ (fun hc41 => ?_) (fun hc41 => ?_)
  · show Es G 60 44 [some (aR 20 (0 : Int)), some (aI c), some (aI o), some (aI (S 20 0 1))] [aI (1 : Int)] (su (su (su (su (su (su (su (su (su (su (su S 20 0 23 (pX A c o)) 20 0 24 (pY A c o)) 20 0 25 (pT A c o)) 22 0 (S 20 0 1) (S 22 0 o)) 23 0 (S 20 0 1) (S 23 0 o)) 27 0 (S 20 0 1) (-1)) 28 0 (S 20 0 1) (-1)) 20 0 1 ((S 20 0 1) + 1)) 24 0 (S 20 0 1) (pX A c o)) 25 0 (S 20 0 1) (pY A c o)) 26 0 (S 20 0 1) (pT A c o)) _ _
    refine es_rg (fun hg4 => ?_)
    refine es_sg 6 (p := ((0 : Int) = 0) ∧ ((((0 : Int) = 0) ∧ (0 ≤ (S 20 0 1) ∧ (S 20 0 1) < 60)) ∧ (r32 c))) (pc' := 52) (ls' := [some (aR 20 (0 : Int)), some (aI c), some (aI o), some (aI (S 20 0 1))]) (st' := []) (S' := su (su (su (su (su (su (su (su (su (su (su (su S 20 0 23 (pX A c o)) 20 0 24 (pY A c o)) 20 0 25 (pT A c o)) 22 0 (S 20 0 1) (S 22 0 o)) 23 0 (S 20 0 1) (S 23 0 o)) 27 0 (S 20 0 1) (-1)) 28 0 (S 20 0 1) (-1)) 20 0 1 ((S 20 0 1) + 1)) 24 0 (S 20 0 1) (pX A c o)) 25 0 (S 20 0 1) (pY A c o)) 26 0 (S 20 0 1) (pT A c o)) 27 0 (S 20 0 1) c) rfl ⟨rfl, ⟨⟨rfl, (by omega)⟩, ⟨by omega, by omega⟩⟩⟩ ?_
    refine es_rg (fun hg5 => ?_)
    refine es_sg 6 (p := ((0 : Int) = 0) ∧ ((0 : Int) = 0)) (pc' := 62) (ls' := [some (aR 20 (0 : Int)), some (aI c), some (aI o), some (aI (S 20 0 1))]) (st' := [aI o, aR 28 (0 : Int), aI (S 20 0 1), aR 28 (0 : Int)]) (S' := su (su (su (su (su (su (su (su (su (su (su (su S 20 0 23 (pX A c o)) 20 0 24 (pY A c o)) 20 0 25 (pT A c o)) 22 0 (S 20 0 1) (S 22 0 o)) 23 0 (S 20 0 1) (S 23 0 o)) 27 0 (S 20 0 1) (-1)) 28 0 (S 20 0 1) (-1)) 20 0 1 ((S 20 0 1) + 1)) 24 0 (S 20 0 1) (pX A c o)) 25 0 (S 20 0 1) (pY A c o)) 26 0 (S 20 0 1) (pT A c o)) 27 0 (S 20 0 1) c) rfl ⟨rfl, rfl⟩ ?_
    refine es_sg 2 (p := (((0 : Int) = 0) ∧ (0 ≤ o ∧ o < 60)) ∧ ((((0 : Int) = 0) ∧ (0 ≤ (S 20 0 1) ∧ (S 20 0 1) < 60)) ∧ (r32 ((su (su (su (su (su (su (su S 20 0 23 (pX A c o)) 20 0 24 (pY A c o)) 20 0 25 (pT A c o)) 22 0 (S 20 0 1) (S 22 0 o)) 23 0 (S 20 0 1) (S 23 0 o)) 27 0 (S 20 0 1) (-1)) 28 0 (S 20 0 1) (-1)) 28 0 o)))) (pc' := 64) (ls' := [some (aR 20 (0 : Int)), some (aI c), some (aI o), some (aI (S 20 0 1))]) (st' := []) (S' := su (su (su (su (su (su (su (su (su (su (su (su (su S 20 0 23 (pX A c o)) 20 0 24 (pY A c o)) 20 0 25 (pT A c o)) 22 0 (S 20 0 1) (S 22 0 o)) 23 0 (S 20 0 1) (S 23 0 o)) 27 0 (S 20 0 1) (-1)) 28 0 (S 20 0 1) (-1)) 20 0 1 ((S 20 0 1) + 1)) 24 0 (S 20 0 1) (pX A c o)) 25 0 (S 20 0 1) (pY A c o)) 26 0 (S 20 0 1) (pT A c o)) 27 0 (S 20 0 1) c) 28 0 (S 20 0 1) ((su (su (su (su (su (su (su S 20 0 23 (pX A c o)) 20 0 24 (pY A c o)) 20 0 25 (pT A c o)) 22 0 (S 20 0 1) (S 22 0 o)) 23 0 (S 20 0 1) (S 23 0 o)) 27 0 (S 20 0 1) (-1)) 28 0 (S 20 0 1) (-1)) 28 0 o)) rfl ⟨⟨rfl, (by omega)⟩, ⟨⟨rfl, (by omega)⟩, (rgI hg5 (t := 28) (i := (0 : Int)) (q := o) (by omega : 0 ≤ (0 : Int) ∧ (0 : Int) < 1) (by omega) rfl)⟩⟩ ?_
    refine es_rg (fun hg6 => ?_)
    refine es_vret rfl ?_
    have er : (su (su (su (su (su (su (su S 20 0 23 (pX A c o)) 20 0 24 (pY A c o)) 20 0 25 (pT A c o)) 22 0 (S 20 0 1) (S 22 0 o)) 23 0 (S 20 0 1) (S 23 0 o)) 27 0 (S 20 0 1) (-1)) 28 0 (S 20 0 1) (-1)) 28 0 o = A 1 o 6 := by
      rw [suA, if_neg (by omega)]
      exact (hR.2.2.1 o ho.1 ho.2).2
    rw [er, a1, a2]
    exact h _ (RR.adm (S := gRk S (pX A c o) (pY A c o) (pT A c o)) (((hR.ob (by decide) (by decide) (by decide)).ob (by decide) (by decide) (by decide)).ob (by decide) (by decide) (by decide)) (hA.fr hlt)) ((((((((((((((Fc.rf _).puto (by decide)).puto (by decide)).puto (by decide)).put (by decide)).put (by decide)).put (by decide)).put (by decide)).puto (by decide)).put (by decide)).put (by decide)).put (by decide)).put (by decide)).put (by decide))
  · show Es G 60 44 [some (aR 20 (0 : Int)), some (aI c), some (aI o), some (aI (S 20 0 1))] [aI (0 : Int)] (su (su (su (su (su (su (su (su (su (su (su S 20 0 23 (pX A c o)) 20 0 24 (pY A c o)) 20 0 25 (pT A c o)) 22 0 (S 20 0 1) (S 22 0 o)) 23 0 (S 20 0 1) (S 23 0 o)) 27 0 (S 20 0 1) (-1)) 28 0 (S 20 0 1) (-1)) 20 0 1 ((S 20 0 1) + 1)) 24 0 (S 20 0 1) (pX A c o)) 25 0 (S 20 0 1) (pY A c o)) 26 0 (S 20 0 1) (pT A c o)) _ _
    refine es_rg (fun hg7 => ?_)
    refine es_sg 6 (p := ((0 : Int) = 0) ∧ ((((0 : Int) = 0) ∧ (0 ≤ (S 20 0 1) ∧ (S 20 0 1) < 60)) ∧ (r32 c))) (pc' := 52) (ls' := [some (aR 20 (0 : Int)), some (aI c), some (aI o), some (aI (S 20 0 1))]) (st' := []) (S' := su (su (su (su (su (su (su (su (su (su (su (su S 20 0 23 (pX A c o)) 20 0 24 (pY A c o)) 20 0 25 (pT A c o)) 22 0 (S 20 0 1) (S 22 0 o)) 23 0 (S 20 0 1) (S 23 0 o)) 27 0 (S 20 0 1) (-1)) 28 0 (S 20 0 1) (-1)) 20 0 1 ((S 20 0 1) + 1)) 24 0 (S 20 0 1) (pX A c o)) 25 0 (S 20 0 1) (pY A c o)) 26 0 (S 20 0 1) (pT A c o)) 27 0 (S 20 0 1) c) rfl ⟨rfl, ⟨⟨rfl, (by omega)⟩, ⟨by omega, by omega⟩⟩⟩ ?_
    refine es_rg (fun hg8 => ?_)
    refine es_sg 6 (p := ((0 : Int) = 0) ∧ ((0 : Int) = 0)) (pc' := 62) (ls' := [some (aR 20 (0 : Int)), some (aI c), some (aI o), some (aI (S 20 0 1))]) (st' := [aI o, aR 28 (0 : Int), aI (S 20 0 1), aR 28 (0 : Int)]) (S' := su (su (su (su (su (su (su (su (su (su (su (su S 20 0 23 (pX A c o)) 20 0 24 (pY A c o)) 20 0 25 (pT A c o)) 22 0 (S 20 0 1) (S 22 0 o)) 23 0 (S 20 0 1) (S 23 0 o)) 27 0 (S 20 0 1) (-1)) 28 0 (S 20 0 1) (-1)) 20 0 1 ((S 20 0 1) + 1)) 24 0 (S 20 0 1) (pX A c o)) 25 0 (S 20 0 1) (pY A c o)) 26 0 (S 20 0 1) (pT A c o)) 27 0 (S 20 0 1) c) rfl ⟨rfl, rfl⟩ ?_
    refine es_sg 2 (p := (((0 : Int) = 0) ∧ (0 ≤ o ∧ o < 60)) ∧ ((((0 : Int) = 0) ∧ (0 ≤ (S 20 0 1) ∧ (S 20 0 1) < 60)) ∧ (r32 ((su (su (su (su (su (su (su S 20 0 23 (pX A c o)) 20 0 24 (pY A c o)) 20 0 25 (pT A c o)) 22 0 (S 20 0 1) (S 22 0 o)) 23 0 (S 20 0 1) (S 23 0 o)) 27 0 (S 20 0 1) (-1)) 28 0 (S 20 0 1) (-1)) 28 0 o)))) (pc' := 64) (ls' := [some (aR 20 (0 : Int)), some (aI c), some (aI o), some (aI (S 20 0 1))]) (st' := []) (S' := su (su (su (su (su (su (su (su (su (su (su (su (su S 20 0 23 (pX A c o)) 20 0 24 (pY A c o)) 20 0 25 (pT A c o)) 22 0 (S 20 0 1) (S 22 0 o)) 23 0 (S 20 0 1) (S 23 0 o)) 27 0 (S 20 0 1) (-1)) 28 0 (S 20 0 1) (-1)) 20 0 1 ((S 20 0 1) + 1)) 24 0 (S 20 0 1) (pX A c o)) 25 0 (S 20 0 1) (pY A c o)) 26 0 (S 20 0 1) (pT A c o)) 27 0 (S 20 0 1) c) 28 0 (S 20 0 1) ((su (su (su (su (su (su (su S 20 0 23 (pX A c o)) 20 0 24 (pY A c o)) 20 0 25 (pT A c o)) 22 0 (S 20 0 1) (S 22 0 o)) 23 0 (S 20 0 1) (S 23 0 o)) 27 0 (S 20 0 1) (-1)) 28 0 (S 20 0 1) (-1)) 28 0 o)) rfl ⟨⟨rfl, (by omega)⟩, ⟨⟨rfl, (by omega)⟩, (rgI hg8 (t := 28) (i := (0 : Int)) (q := o) (by omega : 0 ≤ (0 : Int) ∧ (0 : Int) < 1) (by omega) rfl)⟩⟩ ?_
    refine es_rg (fun hg9 => ?_)
    refine es_vret rfl ?_
    have er : (su (su (su (su (su (su (su S 20 0 23 (pX A c o)) 20 0 24 (pY A c o)) 20 0 25 (pT A c o)) 22 0 (S 20 0 1) (S 22 0 o)) 23 0 (S 20 0 1) (S 23 0 o)) 27 0 (S 20 0 1) (-1)) 28 0 (S 20 0 1) (-1)) 28 0 o = A 1 o 6 := by
      rw [suA, if_neg (by omega)]
      exact (hR.2.2.1 o ho.1 ho.2).2
    rw [er, a1, a2]
    exact h _ (RR.adm (S := gRk S (pX A c o) (pY A c o) (pT A c o)) (((hR.ob (by decide) (by decide) (by decide)).ob (by decide) (by decide) (by decide)).ob (by decide) (by decide) (by decide)) (hA.fr hlt)) ((((((((((((((Fc.rf _).puto (by decide)).puto (by decide)).puto (by decide)).put (by decide)).put (by decide)).put (by decide)).put (by decide)).puto (by decide)).put (by decide)).put (by decide)).put (by decide)).put (by decide)).put (by decide))
theorem n61_l {G : Gw} {k : Nat} {Q : AQ} {m dx dy t c : Int} : ∀ (n : Nat) (B S : Sg) (r : Int) (v : Option AV) (_ : CI B) (_ : RR B S) (_ : 0 ≤ c ∧ c < B 0 0 6) (_ : B 2 c 0 = m) (_ : 0 ≤ m ∧ m < B 0 0 6) (_ : ¬ m = c) (_ : 0 ≤ r) (_ : r + n = 20) (_ : ∀ r', r ≤ r' → r' < 20 → B 3 c r' = -1) (_ : B 0 0 5 + rem B m n r ≤ 60) (_ : ∀ S' : Sg, RR (ctF n B c r 0).1 S' → Fc S S' → Q (.inl (some (aI c))) S'), Es G 61 15 [some (aR 20 (0 : Int)), some (aI m), some (aL dx), none, some (aL dy), none, some (aI t), some (aI c), some (aI r), v] [] S (k + 3) Q := by
  intro n
  induction n using Nat.strongRecOn with
  | _ n ih =>
    intro B S r v hA hR hc hm hm2 hmc hr hn ho hcap h
    have n1 := hA.1.1
    have n2 := hA.1.2.1
    have hb := cntF_b (fun q => decide (¬ B 3 m q = -1)) n r
    refine es_rg (fun hg1 => ?_)
    refine es_s0 2 (pc' := 19) (ls' := [some (aR 20 (0 : Int)), some (aI m), some (aL dx), none, some (aL dy), none, some (aI t), some (aI c), some (aI r), v]) (st' := [aI (20 : Int), aI r]) (S' := S) rfl ?_
    refine es_icmp rfl 51 rfl ⟨by omega, by omega⟩ ⟨by decide, by decide⟩ (fun (g19 : (20 : Int) ≤ r) => ?_) (fun (g19 : ¬ ((20 : Int) ≤ r)) => ?_)
    · refine es_s0 1 (pc' := 53) (ls' := [some (aR 20 (0 : Int)), some (aI m), some (aL dx), none, some (aL dy), none, some (aI t), some (aI c), some (aI r), v]) (st' := [aI c]) (S' := S) rfl ?_
      refine es_iret rfl rfl rfl (Or.inl rfl) ?_
      have e : n = 0 := by omega
      subst e
      exact h S hR (Fc.rf S)
    · refine es_s0 3 (pc' := 26) (ls' := [some (aR 20 (0 : Int)), some (aI m), some (aL dx), none, some (aL dy), none, some (aI t), some (aI c), some (aI r), v]) (st' := [aI r, aI m, aR 20 (0 : Int)]) (S' := S) rfl ?_
      refine es_callV rfl rfl 20 (0 : Int) [aI m, aI r] [] rfl rfl rfl rfl (Nat.le_of_ble_eq_true rfl) (Nat.le_of_ble_eq_true rfl) (Nat.le_of_ble_eq_true rfl) ?_
      refine n40 (S := S) (A := B) hA hR (c := m) (r := r) (by omega) (by omega) ?_
      show Es G 61 29 [some (aR 20 (0 : Int)), some (aI m), some (aL dx), none, some (aL dy), none, some (aI t), some (aI c), some (aI r), v] [aI (B 3 m r)] S _ _
      have hmr := (hA.2.2.2.1 m r hm2.1 (by omega) hr (by omega)).1
      refine es_s0 3 (pc' := 34) (ls' := [some (aR 20 (0 : Int)), some (aI m), some (aL dx), none, some (aL dy), none, some (aI t), some (aI c), some (aI r), some (aI (B 3 m r))]) (st' := [aI (-1 : Int), aI (B 3 m r)]) (S' := S) rfl ?_
      refine es_icmp rfl 45 rfl ⟨by omega, by omega⟩ ⟨by decide, by decide⟩ (fun (g34 : (B 3 m r) = (-1 : Int)) => ?_) (fun (g34 : ¬ ((B 3 m r) = (-1 : Int))) => ?_)
      · refine es_s0 2 (pc' := 15) (ls' := [some (aR 20 (0 : Int)), some (aI m), some (aL dx), none, some (aL dy), none, some (aI t), some (aI c), some (aI (r + 1)), some (aI (B 3 m r))]) (st' := []) (S' := S) rfl ?_
        obtain ⟨n, rfl⟩ : ∃ m, n = m + 1 := ⟨n - 1, by omega⟩
        have er : rem B m (n + 1) r = (if decide (¬ B 3 m r = -1) = true then 1 else 0) + rem B m n (r + 1) := rfl
        rw [if_neg (by simp; omega)] at er
        unfold ctF at h
        rw [step_none hm (by omega), ct_q (q' := 0)] at h
        exact ih n (by omega) B S (r + 1) _ hA hR hc hm hm2 hmc (by omega) (by omega) (fun r' h1 h2 => ho r' (by omega) h2) (by omega) h
      · have hmm2 : B 2 m 0 = -1 := by
          rcases (hA.2.2.1 c hc.1 (by omega)).2.1 with g | g
          · omega
          · rw [hm] at g; exact g.2
        have hnear : near B (B 3 m r) := by
          have q := (hA.orig (c := c) (r := r) (by omega) (by omega) (by rw [hm]; omega)).2
          rw [hm] at q
          exact q
        have hcap2 : 1 ≤ rem B m n r := by
          obtain ⟨n, rfl⟩ : ∃ m, n = m + 1 := ⟨n - 1, by omega⟩
          have er : rem B m (n + 1) r = (if decide (¬ B 3 m r = -1) = true then 1 else 0) + rem B m n (r + 1) := rfl
          rw [if_pos (by simp; omega)] at er
          have hb2 := cntF_b (fun q => decide (¬ B 3 m q = -1)) n (r + 1)
          unfold rem at er ⊢
          omega
        refine es_s0 3 (pc' := 42) (ls' := [some (aR 20 (0 : Int)), some (aI m), some (aL dx), none, some (aL dy), none, some (aI t), some (aI c), some (aI r), some (aI (B 3 m r))]) (st' := [aI (B 3 m r), aI c, aR 20 (0 : Int)]) (S' := S) rfl ?_
        refine es_callV rfl rfl 20 (0 : Int) [aI c, aI (B 3 m r)] [] rfl rfl rfl rfl (Nat.le_of_ble_eq_true rfl) (Nat.le_of_ble_eq_true rfl) (Nat.le_of_ble_eq_true rfl) ?_
        refine n60 (S := S) (A := B) hA hR (c := c) (o := (B 3 m r)) (by omega) (by omega) hnear (by omega) (fun S1 j1 j2 => ?_)
        show Es G 61 45 [some (aR 20 (0 : Int)), some (aI m), some (aL dx), none, some (aL dy), none, some (aI t), some (aI c), some (aI r), some (aI (B 3 m r))] [] S1 _ _
        refine es_rg (fun hg2 => ?_)
        refine es_s0 2 (pc' := 15) (ls' := [some (aR 20 (0 : Int)), some (aI m), some (aL dx), none, some (aL dy), none, some (aI t), some (aI c), some (aI (r + 1)), some (aI (B 3 m r))]) (st' := []) (S' := S1) rfl ?_
        obtain ⟨n, rfl⟩ : ∃ m, n = m + 1 := ⟨n - 1, by omega⟩
        have hx : ¬ B 3 m r = -1 := by omega
        have hst := step_new hA hc hm hm2 (r := r) (by omega) (ho r (by omega) (by omega)) (by omega) hx
        obtain ⟨k1, k2, k3, k4, k5⟩ := step_keep (A := B) (c := c) (r := r)
        have er : rem B m (n + 1) r = (if decide (¬ B 3 m r = -1) = true then 1 else 0) + rem B m n (r + 1) := rfl
        rw [if_pos (by simp [hx])] at er
        have er2 : rem (stepA B c r).1 m n (r + 1) = rem B m n (r + 1) := cntF_ext _ _ (fun q h1 h2 => by rw [k5 m q hmc])
        have e5 : (stepA B c r).1 0 0 5 = B 0 0 5 + 1 := by rw [hst]; rfl
        have hro : B 1 (B 3 m r) 6 = r := by
          rcases (hA.2.2.2.1 m r hm2.1 (by omega) hr (by omega)).1 with g | g
          · omega
          · exact g.2.2
        rw [hro] at j1
        have j1' : RR (stepA B c r).1 S1 := by rw [hst]; exact j1
        unfold ctF at h
        rw [ct_q (q' := 0)] at h
        exact ih n (by omega) _ S1 (r + 1) _ (hA.step hc (by omega)) j1' (by rw [k1]; exact hc) (by rw [k4 c 0 (by decide)]; exact hm) (by rw [k1]; exact hm2) hmc (by omega) (by omega) (fun r' h1 h2 => by
          rw [hst]
          show fJoin _ c (B 0 0 5) r 3 c r' = -1
          rw [fJoin_3, if_neg (by omega)]
          exact ho r' (by omega) h2) (by rw [e5, er2]; omega) (fun S' q1 q2 => h S' q1 (j2.tr q2))
theorem n61 {G : Gw} {S : Sg} {k : Nat} {Q : AQ} {A : Sg} (hA : CI A) (hR : RR A S) {m dx dy t : Int} (hm : (0 ≤ m ∧ m < A 0 0 6) ∧ A 2 m 0 = -1) (hx : -1000000 ≤ dx ∧ dx ≤ 1000000) (hy : -1000000 ≤ dy ∧ dy ≤ 1000000) (ht : 0 ≤ t ∧ t < 4) (hlt : A 0 0 6 < 20) (hcap : A 0 0 5 + A 2 m 5 ≤ 60) (h : ∀ S' : Sg, RR (acF A m dx dy t) S' → Fc S S' → Q (.inl (some (aI (A 0 0 6)))) S') : Es G 61 0 (aEnt 10 [aR 20 (0 : Int), aI m, aL dx, aL dy, aI t]) [] S (k + 3) Q := by
  have n1 := hA.1.1
  have n2 := hA.1.2.1
  have n3 := hA.1.2.2
  have e1 : S 20 0 1 = A 0 0 5 := hR.1.1
  have e10 : S 20 0 10 = A 0 0 6 := hR.1.2.1
  have e17 : S 20 0 17 = A 0 0 7 := hR.1.2.2
  refine es_rg (fun hg1 => ?_)
  refine es_s0 5 (pc' := 7) (ls' := [some (aR 20 (0 : Int)), some (aI m), some (aL dx), none, some (aL dy), none, some (aI t), none, none, none]) (st' := [aI t, aL dy, aL dx, aI m, aR 20 (0 : Int)]) (S' := S) rfl ?_
  refine es_callV rfl rfl 20 (0 : Int) [aI m, aL dx, aL dy, aI t] [] rfl rfl rfl rfl (Nat.le_of_ble_eq_true rfl) (Nat.le_of_ble_eq_true rfl) (Nat.le_of_ble_eq_true rfl) ?_
  refine n31 (S := S) (m := m) (dx := dx) (dy := dy) (t := t) (show 0 ≤ S 20 0 10 ∧ S 20 0 10 < 20 from by omega) ⟨by omega, by omega⟩ ⟨by omega, by omega⟩ ⟨by omega, by omega⟩ ⟨by omega, by omega⟩ ?_
  show Es G 61 10 [some (aR 20 (0 : Int)), some (aI m), some (aL dx), none, some (aL dy), none, some (aI t), none, none, none] [aI (S 20 0 10)] (su (su (su (su (su (su S 31 0 (S 20 0 10) m) 32 0 (S 20 0 10) dx) 33 0 (S 20 0 10) dy) 34 0 (S 20 0 10) t) 35 0 (S 20 0 10) 0) 20 0 10 ((S 20 0 10) + 1)) _ _
  refine es_rg (fun hg2 => ?_)
  refine es_s0 3 (pc' := 15) (ls' := [some (aR 20 (0 : Int)), some (aI m), some (aL dx), none, some (aL dy), none, some (aI t), some (aI (S 20 0 10)), some (aI (0 : Int)), none]) (st' := []) (S' := su (su (su (su (su (su S 31 0 (S 20 0 10) m) 32 0 (S 20 0 10) dx) 33 0 (S 20 0 10) dy) 34 0 (S 20 0 10) t) 35 0 (S 20 0 10) 0) 20 0 10 ((S 20 0 10) + 1)) rfl ?_
  have hsz : A 2 m 5 = rem A m 20 0 := (hA.2.2.1 m hm.1.1 (by omega)).2.2.2.2
  have hz := (hA.2.2.1 (A 0 0 6) (by omega) hlt).2.2.1 (by omega)
  have hac : acF A m dx dy t = (ctF 20 (newCh A m dx dy t) (A 0 0 6) 0 0).1 := by unfold acF; rw [if_pos hlt]
  rw [hac] at h
  have hN := hA.nch hlt (Or.inr hm) hx hy ht
  have hcc : newCh A m dx dy t 2 (A 0 0 6) 0 = m := by rw [newCh_20, if_pos rfl]
  have hmc : ¬ m = A 0 0 6 := by omega
  have key : ∀ c, c = A 0 0 6 → Es G 61 15 [some (aR 20 (0 : Int)), some (aI m), some (aL dx), none, some (aL dy), none, some (aI t), some (aI c), some (aI (0 : Int)), none] [] (su (su (su (su (su (su S 31 0 (S 20 0 10) m) 32 0 (S 20 0 10) dx) 33 0 (S 20 0 10) dy) 34 0 (S 20 0 10) t) 35 0 (S 20 0 10) 0) 20 0 10 ((S 20 0 10) + 1)) (k + 3) Q := fun c hcq => by
    subst hcq
    exact n61_l 20 (newCh A m dx dy t) _ 0 none hN (hR.nch hz.2.2.2.2) (show 0 ≤ A 0 0 6 ∧ A 0 0 6 < A 0 0 6 + 1 from by omega) hcc (show 0 ≤ m ∧ m < A 0 0 6 + 1 from by omega) hmc (by omega) (by omega) (fun r' h1 h2 => hA.empty (by omega) hlt ⟨h1, h2⟩) (show A 0 0 5 + rem A m 20 0 ≤ 60 from by omega) (fun S' q1 q2 => h S' q1 ((((((((Fc.rf _).put (by decide)).put (by decide)).put (by decide)).put (by decide)).put (by decide)).puto (by decide)).tr q2))
  exact key _ e10
