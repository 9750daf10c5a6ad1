/-! THE CLASS: mirrors -/
theorem mi_step {B S S1 : Sg} {c r : Int} (hCB : CI B) (hc : 0 ≤ c ∧ c < B 0 0 6) (hcp : ¬ B 2 c 0 = -1) (hA : CI (miF B c r)) (hL : Lk (miF B c r) S) (hr : 0 ≤ r) (hr2 : r < 20) (hok : (0 ≤ S 2 c 0 ∧ S 2 c 0 < S 0 0 6) ∧ (0 ≤ S 3 (S 2 c 0) r ∧ S 3 (S 2 c 0) r < S 0 0 5)) (q0 : ∀ t : Nat, t ≠ 5 → S1 t = S t) (q3 : S1 5 0 2 = pX S c (S 3 (S 2 c 0) r)) (q4 : S1 5 0 3 = pY S c (S 3 (S 2 c 0) r)) (q5 : S1 5 0 6 = pT S c (S 3 (S 2 c 0) r)) (hown : 0 ≤ S 3 c r ∧ S 3 c r < S 0 0 5) (hh : S 1 (S 3 c r) 7 = 0) : Lk (miF B c (r + 1)) (fMv S1 (S 3 c r) (S1 5 0 2) (S1 5 0 3) (S1 5 0 6)) ∧ CI (miF B c (r + 1)) := by
  have n1 := hCB.1.1
  have n2 := hCB.1.2.1
  have e05 : S 0 0 5 = B 0 0 5 := by rw [hL 0 (by decide)]; rfl
  have e06 : S 0 0 6 = B 0 0 6 := by rw [hL 0 (by decide)]; rfl
  have e3 : ∀ x y, S 3 x y = B 3 x y := fun x y => by rw [hL 3 (by decide)]; rfl
  have e2 : ∀ x, S 2 x 0 = B 2 x 0 := fun x => by rw [hL 2 (by decide)]; rfl
  have e7 : ∀ x, S 1 x 7 = B 1 x 7 := fun x => by rw [hL 1 (by decide)]; rfl
  rw [e2, e05, e06, e3] at hok
  rw [e3, e05] at hown
  rw [e3, e7] at hh
  have hmc := (hCB.2.2.2.1 c r hc.1 (by omega) hr hr2).1
  have hmo := (hCB.2.2.2.1 (B 2 c 0) r hok.1.1 (by omega) hr hr2).1
  have hm0 : B 2 (B 2 c 0) 0 = -1 := by
    rcases (hCB.2.2.1 c hc.1 (by omega)).2.1 with k | k
    · omega
    · exact k.2
  have ho5 : B 1 (B 3 (B 2 c 0) r) 5 = B 2 c 0 := by
    rcases hmo with k | k
    · omega
    · exact k.2.1
  have hoc : ¬ B 1 (B 3 (B 2 c 0) r) 5 = c := fun k => by
    rw [ho5] at k
    rw [k] at hm0
    omega
  have hp5 : B 1 (B 3 c r) 5 = c ∧ B 1 (B 3 c r) 6 = r := by
    rcases hmc with k | k
    · omega
    · exact k.2
  obtain ⟨p1, p2, p3⟩ := miF_pose (r := r) hoc
  obtain ⟨l1, l2, l3⟩ := pose_lk (c := c) (o := B 3 (B 2 c 0) r) hL
  have ho := hCB.orig (c := c) (r := r) (by omega) (by omega) hok
  have hb := pose_b (hCB.2.2.1 c hc.1 (by omega)).1 ho.1 ho.2
  have e := miF_mv (B := B) (c := c) (r := r) (p := B 3 c r) hown hp5.1 hh hp5.2 (fun i hi k1 k2 => by
    rcases (hCB.2.1 i hi.1 (by omega)).2.1 with k | k
    · omega
    · have := k.2.2
      rw [k1, k2] at this
      exact this.symm)
  rw [q3, q4, q5, e2, e3, e3, l1, l2, l3, p1, p2, p3]
  have hS1 : Lk (miF B c r) S1 := fun t ht => (q0 t (by omega)).trans (hL t ht)
  refine ⟨e ▸ fMv_lk hS1, e ▸ hA.mv hown hb.2.2 hb.1 hb.2.1 (fun k => ?_)⟩
  replace k : B 1 (B 3 c r) 5 = -1 ∨ B 2 (B 1 (B 3 c r) 5) 0 = -1 := k
  rw [hp5.1] at k
  omega
theorem m118_l {G : Gw} {k : Nat} {Q : AQ} {B : Sg} {c : Int} (hCB : CI B) (hc : 0 ≤ c ∧ c < B 0 0 6) (hcp : ¬ B 2 c 0 = -1) {Sz : Sg} (h : ∀ S' : Sg, Lk (miF B c 20) S' → Fr Sz S' → Q (.inl (some (aI 1))) S') : ∀ (n : Nat) (S : Sg) (r : Int) (o : Option AV) (_ : Lk (miF B c r) S) (_ : CI (miF B c r)) (_ : Fr Sz S) (_ : 0 ≤ r) (_ : r + n = 20), Es G 118 39 [some (aR 0 (0 : Int)), some (aI c), some (aR 2 c), some (aI r), o] [] S (k + 3) Q := by
  intro n
  induction n using Nat.strongRecOn with
  | _ n ih =>
    intro S r o hL hA hF hr hn
    have hS := hA.lk hL
    have hnp := hS.1.1
    have hnc := hS.1.2.1
    have n1 := hCB.1.1
    have n2 := hCB.1.2.1
    have e05 : S 0 0 5 = B 0 0 5 := by rw [hL 0 (by decide)]; rfl
    have e06 : S 0 0 6 = B 0 0 6 := by rw [hL 0 (by decide)]; rfl
    have e3 : S 3 c r = B 3 c r := by rw [hL 3 (by decide)]; rfl
    have e17 : ∀ i, S 1 i 7 = B 1 i 7 := fun i => by rw [hL 1 (by decide)]; rfl
    have hmem : ∀ i, (0 ≤ i ∧ i < B 0 0 5) → B 1 i 5 = c → B 3 c (B 1 i 6) = i := fun i hi k1 => by
      rcases (hCB.2.1 i hi.1 (by omega)).2.1 with q | q
      · omega
      · rw [← k1]; exact q.2.2
    have hok : r < 20 → 0 ≤ S 3 c r ∧ S 3 c r < S 0 0 5 → (0 ≤ S 2 c 0 ∧ S 2 c 0 < S 0 0 6) ∧ (0 ≤ S 3 (S 2 c 0) r ∧ S 3 (S 2 c 0) r < S 0 0 5) := fun hr2 q => by
      have k1 := (hS.2.2.1 c hc.1 (by omega)).2.1
      have k2 := (hS.2.2.2.1 c r hc.1 (by omega) hr (by omega)).2
      have e20 : S 2 c 0 = B 2 c 0 := by rw [hL 2 (by decide)]; rfl
      rcases k1 with k1 | k1
      · omega
      · have k3 := (hS.2.2.2.1 (S 2 c 0) r k1.1.1 (by omega) hr (by omega)).1
        have k4 := k2 (by omega) (by omega)
        refine ⟨k1.1, ?_⟩
        rcases k3 with k3 | k3
        · omega
        · exact k3.1
    refine es_rg (fun hg1 => ?_)
    refine es_s0 2 (pc' := 42) (ls' := [some (aR 0 (0 : Int)), some (aI c), some (aR 2 c), some (aI r), o]) (st' := [aI (20 : Int), aI r]) (S' := S) rfl ?_
    refine es_icmp rfl 122 rfl ⟨by omega, by omega⟩ ⟨by decide, by decide⟩ (fun (g42 : (20 : Int) ≤ r) => ?_) (fun (g42 : ¬ ((20 : Int) ≤ r)) => ?_)
    · refine es_s0 1 (pc' := 123) (ls' := [some (aR 0 (0 : Int)), some (aI c), some (aR 2 c), some (aI r), o]) (st' := [aI (1 : Int)]) (S' := S) rfl ?_
      refine es_iret rfl rfl rfl (Or.inr ⟨rfl, (by decide)⟩) ?_
      have e : r = 20 := by omega
      subst e
      exact h S hL hF
    · refine es_sg 7 (p := (0 ≤ c ∧ c < 20) ∧ ((0 ≤ c ∧ c < 20) ∧ (0 ≤ r ∧ r < 20))) (pc' := 56) (ls' := [some (aR 0 (0 : Int)), some (aI c), some (aR 2 c), some (aI r), some (aI (S 3 c r))]) (st' := [aI (S 3 c r), aR 0 (0 : Int)]) (S' := S) rfl ⟨(by omega), ⟨(by omega), (by omega)⟩⟩ ?_
      refine es_callV rfl rfl 0 (0 : Int) [aI (S 3 c r)] [] rfl rfl rfl rfl (Nat.le_of_ble_eq_true rfl) (Nat.le_of_ble_eq_true rfl) (Nat.le_of_ble_eq_true rfl) ?_
      refine m16 (n := (S 3 c r)) (rgI hg1 (t := 3) (i := c) (q := r) (by omega : 0 ≤ c ∧ c < 20) (by omega) rfl) (fun hc56 => ?_) (fun hc56 => ?_)
      · show Es G 118 59 [some (aR 0 (0 : Int)), some (aI c), some (aR 2 c), some (aI r), some (aI (S 3 c r))] [aI (1 : Int)] S _ _
        refine es_if rfl 116 rfl ⟨by decide, by decide⟩ (fun (g59 : (1 : Int) = (0 : Int)) => absurd g59 (by decide)) (fun (g59 : ¬ ((1 : Int) = (0 : Int))) => ?_)
        refine es_sg 5 (p := ((0 : Int) = 0) ∧ ((((0 : Int) = 0) ∧ (0 ≤ (S 3 c r) ∧ (S 3 c r) < 60)) ∧ (0 ≤ (S 3 c r) ∧ (S 3 c r) < 60))) (pc' := 72) (ls' := [some (aR 0 (0 : Int)), some (aI c), some (aR 2 c), some (aI r), some (aI (S 3 c r))]) (st' := [aI (S 1 (S 3 c r) 7)]) (S' := S) rfl ⟨rfl, ⟨rfl, (by omega)⟩, (by omega)⟩ ?_
        refine es_if rfl 116 rfl (r32_z (rgZ hg1 (t := 1) (i := (S 3 c r)) (q := (7 : Int)) (by omega : 0 ≤ (S 3 c r) ∧ (S 3 c r) < 60) (by omega) rfl)) (fun (g72 : ¬ (S 1 (S 3 c r) 7) = (0 : Int)) => ?_) (fun (g72 : ¬ (¬ (S 1 (S 3 c r) 7) = (0 : Int))) => ?_)
        · refine es_s0 2 (pc' := 39) (ls' := [some (aR 0 (0 : Int)), some (aI c), some (aR 2 c), some (aI (r + 1)), some (aI (S 3 c r))]) (st' := []) (S' := S) rfl ?_
          have hsk : miF B c (r + 1) = miF B c r := miF_skip (fun i hi k1 k2 k3 => by
            have q := hmem i hi k1
            rw [k3] at q
            have e7 := e17 i
            have e3i : S 3 c r = i := by rw [e3]; exact q
            first | omega | (rw [e3i] at g72; omega) | (exfalso; exact hc78 (hok (by omega) (by omega))))
          rw [← hsk] at hL hA
          exact ih (n - 1) (by omega) S (r + 1) _ hL hA hF (by omega) (by omega)
        · refine es_s0 3 (pc' := 78) (ls' := [some (aR 0 (0 : Int)), some (aI c), some (aR 2 c), some (aI r), some (aI (S 3 c r))]) (st' := [aI r, aR 2 c, aR 0 (0 : Int)]) (S' := S) rfl ?_
          refine es_callV rfl rfl 0 (0 : Int) [aR 2 c, aI r] [] rfl rfl rfl rfl (Nat.le_of_ble_eq_true rfl) (Nat.le_of_ble_eq_true rfl) (Nat.le_of_ble_eq_true rfl) ?_
          refine m49 (S := S) hS.1.1 hS.1.2.1 (c := c) (r := r) (by omega) (by omega) (hS.2.2.1 _ (by omega) (by omega)).1 (hS.orig (by omega) (by omega)) (fun hc78 => ?_) (fun hc78 S1 q0 q1 q2 q3 q4 q5 => ?_)
          · show Es G 118 81 [some (aR 0 (0 : Int)), some (aI c), some (aR 2 c), some (aI r), some (aI (S 3 c r))] [aI (0 : Int)] S _ _
            refine es_if rfl 116 rfl ⟨by decide, by decide⟩ (fun (g81 : (0 : Int) = (0 : Int)) => ?_) (fun (g81 : ¬ ((0 : Int) = (0 : Int))) => absurd g81 (by decide))
            refine es_s0 2 (pc' := 39) (ls' := [some (aR 0 (0 : Int)), some (aI c), some (aR 2 c), some (aI (r + 1)), some (aI (S 3 c r))]) (st' := []) (S' := S) rfl ?_
            have hsk : miF B c (r + 1) = miF B c r := miF_skip (fun i hi k1 k2 k3 => by
              have q := hmem i hi k1
              rw [k3] at q
              have e7 := e17 i
              have e3i : S 3 c r = i := by rw [e3]; exact q
              first | omega | (rw [e3i] at g72; omega) | (exfalso; exact hc78 (hok (by omega) (by omega))))
            rw [← hsk] at hL hA
            exact ih (n - 1) (by omega) S (r + 1) _ hL hA hF (by omega) (by omega)
          · show Es G 118 81 [some (aR 0 (0 : Int)), some (aI c), some (aR 2 c), some (aI r), some (aI (S 3 c r))] [aI (1 : Int)] S1 _ _
            refine es_rg (fun hg2 => ?_)
            refine es_if rfl 116 rfl ⟨by decide, by decide⟩ (fun (g81 : (1 : Int) = (0 : Int)) => absurd g81 (by decide)) (fun (g81 : ¬ ((1 : Int) = (0 : Int))) => ?_)
            refine es_sg 13 (p := ((0 : Int) = 0) ∧ ((((0 : Int) = 0) ∧ (0 ≤ (S 3 c r) ∧ (S 3 c r) < 60)) ∧ (((0 : Int) = 0) ∧ (((0 : Int) = 0) ∧ (((0 : Int) = 0) ∧ (((0 : Int) = 0) ∧ (((0 : Int) = 0) ∧ ((0 : Int) = 0)))))))) (pc' := 112) (ls' := [some (aR 0 (0 : Int)), some (aI c), some (aR 2 c), some (aI r), some (aI (S 3 c r))]) (st' := [aI (S1 5 0 6), aL (S1 5 0 3), aL (S1 5 0 2), aR 1 (S 3 c r)]) (S' := S1) rfl ⟨rfl, ⟨rfl, (by omega)⟩, rfl, rfl, rfl, rfl, rfl, rfl⟩ ?_
            refine es_callV rfl rfl 1 (S 3 c r) [aL (S1 5 0 2), aL (S1 5 0 3), aI (S1 5 0 6)] [] rfl rfl rfl (show 0 ≤ (S 3 c r) ∧ (S 3 c r) < 60 from (by omega)) (Nat.le_of_ble_eq_true rfl) (Nat.le_of_ble_eq_true rfl) (Nat.le_of_ble_eq_true rfl) ?_
            refine m22 (i := (S 3 c r)) (x := (S1 5 0 2)) (y := (S1 5 0 3)) (t := (S1 5 0 6)) (by omega) (rgL hg2 (t := 5) (i := (0 : Int)) (q := (2 : Int)) (by omega : 0 ≤ (0 : Int) ∧ (0 : Int) < 1) (by omega) rfl) (rgL hg2 (t := 5) (i := (0 : Int)) (q := (3 : Int)) (by omega : 0 ≤ (0 : Int) ∧ (0 : Int) < 1) (by omega) rfl) (rgI hg2 (t := 5) (i := (0 : Int)) (q := (6 : Int)) (by omega : 0 ≤ (0 : Int) ∧ (0 : Int) < 1) (by omega) rfl) (fun hc112 => ?_) (fun hc112 => ?_)
            · show Es G 118 115 [some (aR 0 (0 : Int)), some (aI c), some (aR 2 c), some (aI r), some (aI (S 3 c r))] [aI (1 : Int)] (su (su (su S1 1 (S 3 c r) 2 (S1 5 0 2)) 1 (S 3 c r) 3 (S1 5 0 3)) 1 (S 3 c r) 4 (S1 5 0 6)) _ _
              refine es_rg (fun hg3 => ?_)
              refine es_s0 3 (pc' := 39) (ls' := [some (aR 0 (0 : Int)), some (aI c), some (aR 2 c), some (aI (r + 1)), some (aI (S 3 c r))]) (st' := []) (S' := su (su (su S1 1 (S 3 c r) 2 (S1 5 0 2)) 1 (S 3 c r) 3 (S1 5 0 3)) 1 (S 3 c r) 4 (S1 5 0 6)) rfl ?_
              have hst := mi_step hCB hc hcp hA hL hr (by omega) hc78 q0 q3 q4 q5 hc56 (by omega)
              exact ih (n - 1) (by omega) _ (r + 1) _ hst.1 hst.2 (fun t ht => by rw [su_tt _ (by omega), su_tt _ (by omega), su_tt _ (by omega), q0 t (by omega), hF t ht]) (by omega) (by omega)
            · show Es G 118 115 [some (aR 0 (0 : Int)), some (aI c), some (aR 2 c), some (aI r), some (aI (S 3 c r))] [aI (0 : Int)] (su (su (su S1 1 (S 3 c r) 2 (S1 5 0 2)) 1 (S 3 c r) 3 (S1 5 0 3)) 1 (S 3 c r) 4 (S1 5 0 6)) _ _
              refine es_rg (fun hg4 => ?_)
              refine es_s0 3 (pc' := 39) (ls' := [some (aR 0 (0 : Int)), some (aI c), some (aR 2 c), some (aI (r + 1)), some (aI (S 3 c r))]) (st' := []) (S' := su (su (su S1 1 (S 3 c r) 2 (S1 5 0 2)) 1 (S 3 c r) 3 (S1 5 0 3)) 1 (S 3 c r) 4 (S1 5 0 6)) rfl ?_
              have hst := mi_step hCB hc hcp hA hL hr (by omega) hc78 q0 q3 q4 q5 hc56 (by omega)
              exact ih (n - 1) (by omega) _ (r + 1) _ hst.1 hst.2 (fun t ht => by rw [su_tt _ (by omega), su_tt _ (by omega), su_tt _ (by omega), q0 t (by omega), hF t ht]) (by omega) (by omega)
      · show Es G 118 59 [some (aR 0 (0 : Int)), some (aI c), some (aR 2 c), some (aI r), some (aI (S 3 c r))] [aI (0 : Int)] S _ _
        refine es_if rfl 116 rfl ⟨by decide, by decide⟩ (fun (g59 : (0 : Int) = (0 : Int)) => ?_) (fun (g59 : ¬ ((0 : Int) = (0 : Int))) => absurd g59 (by decide))
        refine es_s0 2 (pc' := 39) (ls' := [some (aR 0 (0 : Int)), some (aI c), some (aR 2 c), some (aI (r + 1)), some (aI (S 3 c r))]) (st' := []) (S' := S) rfl ?_
        have hsk : miF B c (r + 1) = miF B c r := miF_skip (fun i hi k1 k2 k3 => by
          have q := hmem i hi k1
          rw [k3] at q
          have e7 := e17 i
          have e3i : S 3 c r = i := by rw [e3]; exact q
          first | omega | (rw [e3i] at g72; omega) | (exfalso; exact hc78 (hok (by omega) (by omega))))
        rw [← hsk] at hL hA
        exact ih (n - 1) (by omega) S (r + 1) _ hL hA hF (by omega) (by omega)
theorem miF_z0 {B : Sg} {c : Int} (h : CI B) (hc : 0 ≤ c) : miF B c 0 = B := by
  have n1 := h.1.1
  funext t i j
  unfold miF
  rw [if_neg (fun k => ?_)]
  rcases (h.2.1 i k.2.1.1 (by omega)).2.1 with q | q
  · omega
  · omega
theorem m118 {G : Gw} {S : Sg} {k : Nat} {Q : AQ} {A : Sg} (hL : Lk A S) (hA : CI A) {c : Int} (hc : r32 c) (t1 : ¬ (0 ≤ c ∧ c < S 0 0 6) → Q (.inr 1) S) (h1 : (0 ≤ c ∧ c < S 0 0 6) ∧ S 2 c 0 = -1 → Q (.inl (some (aI 0))) S) (h0 : (0 ≤ c ∧ c < S 0 0 6) ∧ ¬ S 2 c 0 = -1 → ∀ S' : Sg, Lk (miF (flip A c) c 20) S' → Fr S S' → Q (.inl (some (aI 1))) S') : Es G 118 0 (aEnt 5 [aR 0 (0 : Int), aI c]) [] S (k + 3) Q := by
  have hS := hA.lk hL
  have hnp := hS.1.1
  have hnc := hS.1.2.1
  have e05 : S 0 0 5 = A 0 0 5 := by rw [hL 0 (by decide)]
  have e06 : S 0 0 6 = A 0 0 6 := by rw [hL 0 (by decide)]
  refine es_rg (fun hg1 => ?_)
  refine es_s0 2 (pc' := 2) (ls' := [some (aR 0 (0 : Int)), some (aI c), none, none, none]) (st' := [aI c, aR 0 (0 : Int)]) (S' := S) rfl ?_
  refine es_callV rfl rfl 0 (0 : Int) [aI c] [] rfl rfl rfl rfl (Nat.le_of_ble_eq_true rfl) (Nat.le_of_ble_eq_true rfl) (Nat.le_of_ble_eq_true rfl) ?_
  refine m34 (n := c) (by assumption) (fun hc2 => ?_) (fun hc2 => ⟨⟨_, rfl, rfl, rfl⟩, ?_⟩)
  · show Es G 118 5 [some (aR 0 (0 : Int)), some (aI c), none, none, none] [] S _ _
    refine es_sg 6 (p := ((0 : Int) = 0) ∧ (((0 : Int) = 0) ∧ (0 ≤ c ∧ c < 20))) (pc' := 13) (ls' := [some (aR 0 (0 : Int)), some (aI c), some (aR 2 c), none, none]) (st' := [aR 2 c]) (S' := S) rfl ⟨rfl, ⟨rfl, (by omega)⟩⟩ ?_
    refine es_callV rfl rfl 2 c [] [] rfl rfl rfl (show 0 ≤ c ∧ c < 20 from (by omega)) (Nat.le_of_ble_eq_true rfl) (Nat.le_of_ble_eq_true rfl) (Nat.le_of_ble_eq_true rfl) ?_
    refine m35 (c := c) (by omega) (fun hc13 => ?_) (fun hc13 => ?_)
    · show Es G 118 16 [some (aR 0 (0 : Int)), some (aI c), some (aR 2 c), none, none] [aI (1 : Int)] S _ _
      refine es_if rfl 21 rfl ⟨by decide, by decide⟩ (fun (g16 : ¬ (1 : Int) = (0 : Int)) => ?_) (fun (g16 : ¬ (¬ (1 : Int) = (0 : Int))) => absurd g16 (by decide))
      have hz := rgZ hg1 (t := 2) (i := c) (q := 4) (by omega : 0 ≤ c ∧ c < 20) (by omega) rfl
      refine es_sg 3 (p := 0 ≤ c ∧ c < 20) (pc' := 26) (ls' := [some (aR 0 (0 : Int)), some (aI c), some (aR 2 c), none, none]) (st' := [aI (S 2 c 4), aR 2 c]) (S' := S) rfl (by omega) ?_
      refine es_if rfl 33 rfl (r32_z (rgZ hg1 (t := 2) (i := c) (q := (4 : Int)) (by omega : 0 ≤ c ∧ c < 20) (by omega) rfl)) (fun (g26 : ¬ (S 2 c 4) = (0 : Int)) => ?_) (fun (g26 : ¬ (¬ (S 2 c 4) = (0 : Int))) => ?_)
      · refine es_sg 2 (p := (0 ≤ c ∧ c < 20) ∧ ((0 : Int) = 0 ∨ (0 : Int) = 1)) (pc' := 37) (ls' := [some (aR 0 (0 : Int)), some (aI c), some (aR 2 c), none, none]) (st' := []) (S' := su S 2 c 4 0) rfl ⟨(by omega), (by decide)⟩ ?_
        refine es_rg (fun hg2 => ?_)
        refine es_s0 2 (pc' := 39) (ls' := [some (aR 0 (0 : Int)), some (aI c), some (aR 2 c), some (aI (0 : Int)), none]) (st' := []) (S' := su S 2 c 4 0) rfl ?_
        have hf : 1 - A 2 c 4 = 0 := by have q : S 2 c 4 = A 2 c 4 := by rw [hL 2 (by decide)]
                                        omega
        have hz2 : A 2 c 4 = 0 ∨ A 2 c 4 = 1 := by omega
        have hB : CI (flip A c) := hA.flip hz2 (by omega)
        have hLf : Lk (flip A c) (su S 2 c 4 0) := by unfold flip; rw [hf]; exact su_lk hL
        have hmz : miF (flip A c) c 0 = flip A c := miF_z0 hB (by omega)
        refine m118_l hB (show 0 ≤ c ∧ c < A 0 0 6 from by omega) (show ¬ A 2 c 0 = -1 from fun q => by rw [← hL 2 (by decide)] at q; omega) (Sz := su S 2 c 4 0) (fun S' j1 j2 => h0 (by omega) S' j1 (fun t ht => by rw [j2 t ht, su_tt _ (by omega)])) 20 _ 0 _ (by rw [hmz]; exact hLf) (by rw [hmz]; exact hB) (Fr.rf _) (by omega) (by omega)
      · refine es_sg 3 (p := (0 ≤ c ∧ c < 20) ∧ ((1 : Int) = 0 ∨ (1 : Int) = 1)) (pc' := 37) (ls' := [some (aR 0 (0 : Int)), some (aI c), some (aR 2 c), none, none]) (st' := []) (S' := su S 2 c 4 1) rfl ⟨(by omega), (by decide)⟩ ?_
        refine es_rg (fun hg3 => ?_)
        refine es_s0 2 (pc' := 39) (ls' := [some (aR 0 (0 : Int)), some (aI c), some (aR 2 c), some (aI (0 : Int)), none]) (st' := []) (S' := su S 2 c 4 1) rfl ?_
        have hf : 1 - A 2 c 4 = 1 := by have q : S 2 c 4 = A 2 c 4 := by rw [hL 2 (by decide)]
                                        omega
        have hz2 : A 2 c 4 = 0 ∨ A 2 c 4 = 1 := by omega
        have hB : CI (flip A c) := hA.flip hz2 (by omega)
        have hLf : Lk (flip A c) (su S 2 c 4 1) := by unfold flip; rw [hf]; exact su_lk hL
        have hmz : miF (flip A c) c 0 = flip A c := miF_z0 hB (by omega)
        refine m118_l hB (show 0 ≤ c ∧ c < A 0 0 6 from by omega) (show ¬ A 2 c 0 = -1 from fun q => by rw [← hL 2 (by decide)] at q; omega) (Sz := su S 2 c 4 1) (fun S' j1 j2 => h0 (by omega) S' j1 (fun t ht => by rw [j2 t ht, su_tt _ (by omega)])) 20 _ 0 _ (by rw [hmz]; exact hLf) (by rw [hmz]; exact hB) (Fr.rf _) (by omega) (by omega)
    · show Es G 118 16 [some (aR 0 (0 : Int)), some (aI c), some (aR 2 c), none, none] [aI (0 : Int)] S _ _
      refine es_if rfl 21 rfl ⟨by decide, by decide⟩ (fun (g16 : ¬ (0 : Int) = (0 : Int)) => absurd g16 (by decide)) (fun (g16 : ¬ (¬ (0 : Int) = (0 : Int))) => ?_)
      refine es_s0 1 (pc' := 20) (ls' := [some (aR 0 (0 : Int)), some (aI c), some (aR 2 c), none, none]) (st' := [aI (0 : Int)]) (S' := S) rfl ?_
      refine es_iret rfl rfl rfl (Or.inr ⟨rfl, (by decide)⟩) ?_
      exact h1 (by omega)
  · exact t1 (by omega)
