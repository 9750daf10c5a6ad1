/-! THE REFERENCE: carry, array, mirror -/
theorem n70' {G : Gw} {S : Sg} {k : Nat} {Q : AQ} {A : Sg} (hA : CI A) (hR : RR A S) {c r o : Int} (ho : A 3 (A 2 c 0) r = o) (hc : 0 ≤ c ∧ c < A 0 0 6) (hr : 0 ≤ r ∧ r < 20) (hm2 : 0 ≤ A 2 c 0 ∧ A 2 c 0 < A 0 0 6) (hT : TT A c r) (h : ∀ S' : Sg, RR (stepA A c r).1 S' → Fc S S' → Q (.inl (some (aI (stepA A c r).2))) S') : Es G 70 0 (aEnt 5 [aR 20 0, aI c, aI o, aI r]) [] S (k + 3) Q := by
  subst ho
  exact n70 hA hR hc hr hm2 hT h
theorem n71_c {G : Gw} {S0 : Sg} {k : Nat} {Q : AQ} {m : Int} (K : ∀ S' : Sg, (∀ t : Nat, t ≠ 36 → S' t = S0 t) → (∀ q, 0 ≤ q → q < 60 → S' 36 0 q = 0) → Es G 71 57 [some (aR 20 (0 : Int)), some (aI m), some (aI (60 : Int)), none, none] [] S' (k + 5) Q) : ∀ (n : Nat) (S : Sg) (p : Int) (_ : 0 ≤ p) (_ : p + n = 60) (_ : ∀ t : Nat, t ≠ 36 → S t = S0 t) (_ : ∀ q, 0 ≤ q → q < p → S 36 0 q = 0), Es G 71 38 [some (aR 20 (0 : Int)), some (aI m), some (aI p), none, none] [] S (k + 5) Q := by
  intro n
  induction n using Nat.strongRecOn with
  | _ n ih =>
    intro S p hp hn h0 h1
    refine es_rg (fun hg1 => ?_)
    refine es_s0 2 (pc' := 41) (ls' := [some (aR 20 (0 : Int)), some (aI m), some (aI p), none, none]) (st' := [aI (60 : Int), aI p]) (S' := S) rfl ?_
    refine es_icmp rfl 57 rfl ⟨by omega, by omega⟩ ⟨by decide, by decide⟩ (fun (g41 : (60 : Int) ≤ p) => ?_) (fun (g41 : ¬ ((60 : Int) ≤ p)) => ?_)
    · have e : p = 60 := by omega
      subst e
      exact K S h0 h1
    · refine es_sg 5 (p := ((0 : Int) = 0) ∧ ((((0 : Int) = 0) ∧ (0 ≤ p ∧ p < 60)) ∧ ((0 : Int) = 0 ∨ (0 : Int) = 1))) (pc' := 51) (ls' := [some (aR 20 (0 : Int)), some (aI m), some (aI p), none, none]) (st' := []) (S' := su S 36 0 p 0) rfl ⟨rfl, ⟨⟨rfl, (by omega)⟩, (by decide)⟩⟩ ?_
      refine es_rg (fun hg2 => ?_)
      refine es_s0 2 (pc' := 38) (ls' := [some (aR 20 (0 : Int)), some (aI m), some (aI (p + 1)), none, none]) (st' := []) (S' := su S 36 0 p 0) rfl ?_
      exact ih (n - 1) (by omega) _ (p + 1) (by omega) (by omega) (fun t ht => by rw [su_tt _ ht]; exact h0 t ht) (fun q q0 q1 => by
        rw [suA]
        by_cases e : q = p
        · rw [if_pos e]
        · rw [if_neg e]; exact h1 q q0 (by omega))
theorem n71_r {G : Gw} {k : Nat} {Q : AQ} {m c : Int} : ∀ (n : Nat) (B S : Sg) (r q : Int) (_ : CI B) (_ : RR B S) (_ : TT B c r) (_ : 0 ≤ c ∧ c < B 0 0 6) (_ : B 2 c 0 = m) (_ : 0 ≤ m ∧ m < B 0 0 6) (_ : 0 ≤ r) (_ : r + n = 20) (_ : 0 ≤ q ∧ q ≤ 400 + r) (_ : ∀ S' : Sg, RR (ctF n B c r q).1 S' → Fc S S' → Es G 71 123 [some (aR 20 0), some (aI m), some (aI (ctF n B c r q).2), some (aI c), some (aI 20)] [] S' (k + 5) Q), Es G 71 85 [some (aR 20 (0 : Int)), some (aI m), some (aI q), some (aI c), some (aI r)] [] S (k + 5) Q := by
  intro n
  induction n using Nat.strongRecOn with
  | _ n ih =>
    intro B S r q hA hR hT hc hm hm2 hr hn hq h
    have n1 := hA.1.1
    have n2 := hA.1.2.1
    refine es_rg (fun hg1 => ?_)
    refine es_s0 2 (pc' := 89) (ls' := [some (aR 20 (0 : Int)), some (aI m), some (aI q), some (aI c), some (aI r)]) (st' := [aI (20 : Int), aI r]) (S' := S) rfl ?_
    refine es_icmp rfl 123 rfl ⟨by omega, by omega⟩ ⟨by decide, by decide⟩ (fun (g89 : (20 : Int) ≤ r) => ?_) (fun (g89 : ¬ ((20 : Int) ≤ r)) => ?_)
    · have e : n = 0 := by omega
      subst e
      have e2 : r = 20 := by omega
      subst e2
      exact h S hR (Fc.rf S)
    · refine es_s0 6 (pc' := 99) (ls' := [some (aR 20 (0 : Int)), some (aI m), some (aI q), some (aI c), some (aI r)]) (st' := [aI r, aI m, aR 20 (0 : Int), aI c, aR 20 (0 : Int), aI q]) (S' := S) rfl ?_
      refine es_callV rfl rfl 20 (0 : Int) [aI m, aI r] [aI c, aR 20 (0 : Int), aI q] rfl rfl rfl rfl (Nat.le_of_ble_eq_true rfl) (Nat.le_of_ble_eq_true rfl) (Nat.le_of_ble_eq_true rfl) ?_
      refine n40 (S := S) (A := B) hA hR (c := m) (r := r) (by omega) (by omega) ?_
      show Es G 71 102 [some (aR 20 (0 : Int)), some (aI m), some (aI q), some (aI c), some (aI r)] [aI (B 3 m r), aI c, aR 20 (0 : Int), aI q] S _ _
      refine es_s0 1 (pc' := 104) (ls' := [some (aR 20 (0 : Int)), some (aI m), some (aI q), some (aI c), some (aI r)]) (st' := [aI r, aI (B 3 m r), aI c, aR 20 (0 : Int), aI q]) (S' := S) rfl ?_
      refine es_callV rfl rfl 20 (0 : Int) [aI c, aI (B 3 m r), aI r] [aI q] rfl rfl rfl rfl (Nat.le_of_ble_eq_true rfl) (Nat.le_of_ble_eq_true rfl) (Nat.le_of_ble_eq_true rfl) ?_
      refine n70' (S := S) (A := B) hA hR (c := c) (r := r) (by rw [hm]) hc (by omega) (by rw [hm]; exact hm2) hT (fun S1 j1 j2 => ?_)
      show Es G 71 107 [some (aR 20 (0 : Int)), some (aI m), some (aI q), some (aI c), some (aI r)] [aI ((stepA B c r).2), aI q] S1 _ _
      refine es_rg (fun hg2 => ?_)
      refine es_if rfl 114 rfl (r32_z step_01) (fun (g107 : ((stepA B c r).2) = (0 : Int)) => ?_) (fun (g107 : ¬ (((stepA B c r).2) = (0 : Int))) => ?_)
      · refine es_s0 5 (pc' := 85) (ls' := [some (aR 20 (0 : Int)), some (aI m), some (aI (q + 0)), some (aI c), some (aI (r + 1))]) (st' := []) (S' := S1) rfl ?_
        obtain ⟨n, rfl⟩ : ∃ m, n = m + 1 := ⟨n - 1, by omega⟩
        obtain ⟨k1, k2, k3, k4, k5⟩ := step_keep (A := B) (c := c) (r := r)
        have h01 := step_01 (A := B) (c := c) (r := r)
        unfold ctF at h
        rw [show q + (stepA B c r).2 = q + 0 from by omega] at h
        exact ih n (by omega) _ S1 (r + 1) _ (hA.step hc (by omega)) j1 (hT.step hA (by omega) (by omega)) (by rw [k1]; exact hc) (by rw [k4 c 0 (by decide)]; exact hm) (by rw [k1]; exact hm2) (by omega) (by omega) (by omega) (fun S' q1 q2 => h S' q1 (j2.tr q2))
      · refine es_s0 6 (pc' := 85) (ls' := [some (aR 20 (0 : Int)), some (aI m), some (aI (q + 1)), some (aI c), some (aI (r + 1))]) (st' := []) (S' := S1) rfl ?_
        obtain ⟨n, rfl⟩ : ∃ m, n = m + 1 := ⟨n - 1, by omega⟩
        obtain ⟨k1, k2, k3, k4, k5⟩ := step_keep (A := B) (c := c) (r := r)
        have h01 := step_01 (A := B) (c := c) (r := r)
        unfold ctF at h
        rw [show q + (stepA B c r).2 = q + 1 from by omega] at h
        exact ih n (by omega) _ S1 (r + 1) _ (hA.step hc (by omega)) j1 (hT.step hA (by omega) (by omega)) (by rw [k1]; exact hc) (by rw [k4 c 0 (by decide)]; exact hm) (by rw [k1]; exact hm2) (by omega) (by omega) (by omega) (fun S' q1 q2 => h S' q1 (j2.tr q2))
theorem n71_l {G : Gw} {k : Nat} {Q : AQ} {m : Int} : ∀ (n : Nat) (B S : Sg) (c q : Int) (v : Option AV) (_ : CI B) (_ : RR B S) (_ : TT B c 0) (_ : 0 ≤ m ∧ m < B 0 0 6) (_ : 0 ≤ c) (_ : c + n = B 0 0 6) (_ : 0 ≤ q ∧ q ≤ 20 * c) (_ : ∀ S' : Sg, RR (crF n B m c q).1 S' → Fc S S' → Q (.inl (some (aI (crF n B m c q).2))) S'), Es G 71 61 [some (aR 20 (0 : Int)), some (aI m), some (aI q), some (aI c), v] [] S (k + 5) Q := by
  intro n
  induction n using Nat.strongRecOn with
  | _ n ih =>
    intro B S c q v hA hR hT hm hc hn hq h
    have n1 := hA.1.1
    have n2 := hA.1.2.1
    have e10 : S 20 0 10 = B 0 0 6 := hR.1.2.1
    refine es_rg (fun hg1 => ?_)
    refine es_sg 3 (p := (0 : Int) = 0) (pc' := 66) (ls' := [some (aR 20 (0 : Int)), some (aI m), some (aI q), some (aI c), v]) (st' := [aI (S 20 0 10), aI c]) (S' := S) rfl rfl ?_
    refine es_icmp rfl 129 rfl ⟨by omega, by omega⟩ (rgI hg1 (t := 20) (i := (0 : Int)) (q := (10 : Int)) (by omega : 0 ≤ (0 : Int) ∧ (0 : Int) < 1) (by omega) rfl) (fun (g66 : (S 20 0 10) ≤ c) => ?_) (fun (g66 : ¬ ((S 20 0 10) ≤ c)) => ?_)
    · refine es_s0 1 (pc' := 130) (ls' := [some (aR 20 (0 : Int)), some (aI m), some (aI q), some (aI c), v]) (st' := [aI q]) (S' := S) rfl ?_
      refine es_iret rfl rfl rfl (Or.inl rfl) ?_
      have e : n = 0 := by omega
      subst e
      exact h S hR (Fc.rf S)
    · have hcc := (hR.2.2.2.1 c hc (by omega)).1
      refine es_sg 5 (p := ((0 : Int) = 0) ∧ (((0 : Int) = 0) ∧ (0 ≤ c ∧ c < 20))) (pc' := 76) (ls' := [some (aR 20 (0 : Int)), some (aI m), some (aI q), some (aI c), v]) (st' := [aI m, aI (S 31 0 c)]) (S' := S) rfl ⟨rfl, ⟨rfl, (by omega)⟩⟩ ?_
      refine es_icmp rfl 82 rfl (rgI hg1 (t := 31) (i := (0 : Int)) (q := c) (by omega : 0 ≤ (0 : Int) ∧ (0 : Int) < 1) (by omega) rfl) ⟨by omega, by omega⟩ (fun (g76 : (S 31 0 c) = m) => ?_) (fun (g76 : ¬ ((S 31 0 c) = m)) => ?_)
      · refine es_s0 2 (pc' := 85) (ls' := [some (aR 20 (0 : Int)), some (aI m), some (aI q), some (aI c), some (aI (0 : Int))]) (st' := []) (S' := S) rfl ?_
        obtain ⟨n, rfl⟩ : ∃ m, n = m + 1 := ⟨n - 1, by omega⟩
        unfold crF at h
        rw [if_pos (by omega)] at h
        have hb := ct_b (A := B) 20 (c := c) (r := 0) (q := q)
        obtain ⟨k1, k2, k3, k4, k5⟩ := ct_keep (A := B) 20 (c := c) (r := 0) (q := q)
        refine n71_r 20 B S 0 q hA hR hT (by omega) (by omega) hm (by omega) (by omega) (by omega) (fun S' q1 q2 => ?_)
        have hT2 := (TT.ct 20 hA (c := c) (r := 0) (q := q) (by omega) (by omega) hT).next
        refine es_s0 2 (pc' := 61) (ls' := [some (aR 20 0), some (aI m), some (aI (ctF 20 B c 0 q).2), some (aI (c + 1)), some (aI 20)]) (st' := []) (S' := S') rfl ?_
        rw [ct_add]
        rw [ct_q (q' := 0)] at q1 hT2 k1
        rw [ct_add] at hb
        exact ih n (by omega) (ctF 20 B c 0 0).1 S' (c + 1) _ _ (hA.ct 20 (by omega) (by omega)) q1 hT2 (by rw [k1]; exact hm) (by omega) (by rw [k1]; omega) (by omega) (fun S2 w1 w2 => h S2 w1 (q2.tr w2))
      · refine es_s0 3 (pc' := 61) (ls' := [some (aR 20 (0 : Int)), some (aI m), some (aI q), some (aI (c + 1)), v]) (st' := []) (S' := S) rfl ?_
        obtain ⟨n, rfl⟩ : ∃ m, n = m + 1 := ⟨n - 1, by omega⟩
        unfold crF at h
        rw [if_neg (by omega)] at h
        exact ih n (by omega) B S (c + 1) q _ hA hR hT.next hm (by omega) (by omega) (by omega) h
theorem n71 {G : Gw} {S : Sg} {k : Nat} {Q : AQ} {A : Sg} (hA : CI A) (hR : RR A S) {m : Int} (hm : r32 m) (t1 : ¬ (0 ≤ m ∧ m < A 0 0 6) → Q (.inl (some (aI 0))) (su S 20 0 0 1)) (h1 : (0 ≤ m ∧ m < A 0 0 6) ∧ ¬ A 2 m 0 = -1 → Q (.inl (some (aI 0))) (su S 20 0 0 0)) (h0 : (0 ≤ m ∧ m < A 0 0 6) ∧ A 2 m 0 = -1 → ∀ S' : Sg, RR (crF (A 0 0 6).toNat (su A 0 0 8 0) m 0 0).1 S' → Fx S S' → S' 20 0 0 = 0 → Q (.inl (some (aI (crF (A 0 0 6).toNat (su A 0 0 8 0) m 0 0).2))) S') : Es G 71 0 (aEnt 5 [aR 20 (0 : Int), aI m]) [] S (k + 5) Q := by
  have n1 := hA.1.1
  have n2 := hA.1.2.1
  have n3 := hA.1.2.2
  have e1 : S 20 0 1 = A 0 0 5 := hR.1.1
  have e10 : S 20 0 10 = A 0 0 6 := hR.1.2.1
  have e17 : S 20 0 17 = A 0 0 7 := hR.1.2.2
  refine es_rg (fun hg1 => ?_)
  refine es_s0 3 (pc' := 3) (ls' := [some (aR 20 (0 : Int)), some (aI m), none, none, none]) (st' := [aI m, aR 20 (0 : Int), aR 20 (0 : Int)]) (S' := S) rfl ?_
  refine es_callV rfl rfl 20 (0 : Int) [aI m] [aR 20 (0 : Int)] rfl rfl rfl rfl (Nat.le_of_ble_eq_true rfl) (Nat.le_of_ble_eq_true rfl) (Nat.le_of_ble_eq_true rfl) ?_
  refine n39 (S := S) (n := m) (by assumption) (fun hc3 => ?_) (fun hc3 => ?_)
  · show Es G 71 6 [some (aR 20 (0 : Int)), some (aI m), none, none, none] [aI (1 : Int), aR 20 (0 : Int)] S _ _
    refine es_if rfl 13 rfl ⟨by decide, by decide⟩ (fun (g6 : (1 : Int) = (0 : Int)) => absurd g6 (by decide)) (fun (g6 : ¬ ((1 : Int) = (0 : Int))) => ?_)
    refine es_sg 3 (p := ((0 : Int) = 0) ∧ (r32 (0 : Int))) (pc' := 17) (ls' := [some (aR 20 (0 : Int)), some (aI m), none, none, none]) (st' := []) (S' := su S 20 0 0 0) rfl ⟨rfl, ⟨by decide, by decide⟩⟩ ?_
    refine es_rg (fun hg2 => ?_)
    refine es_sg 2 (p := (0 : Int) = 0) (pc' := 21) (ls' := [some (aR 20 (0 : Int)), some (aI m), none, none, none]) (st' := [aI (0 : Int)]) (S' := su S 20 0 0 0) rfl rfl ?_
    refine es_if rfl 34 rfl ⟨by omega, by omega⟩ (fun (g21 : ¬ (0 : Int) = (0 : Int)) => absurd g21 (by decide)) (fun (g21 : ¬ (¬ (0 : Int) = (0 : Int))) => ?_)
    have hcc := (hR.2.2.2.1 m (by omega) (by omega)).1
    refine es_sg 5 (p := ((0 : Int) = 0) ∧ (((0 : Int) = 0) ∧ (0 ≤ m ∧ m < 20))) (pc' := 31) (ls' := [some (aR 20 (0 : Int)), some (aI m), none, none, none]) (st' := [aI (-1 : Int), aI (S 31 0 m)]) (S' := su S 20 0 0 0) rfl ⟨rfl, ⟨rfl, (by omega)⟩⟩ ?_
    refine es_icmp rfl 36 rfl (rgI hg1 (t := 31) (i := (0 : Int)) (q := m) (by omega : 0 ≤ (0 : Int) ∧ (0 : Int) < 1) (by omega) rfl) ⟨by decide, by decide⟩ (fun (g31 : (S 31 0 m) = (-1 : Int)) => ?_) (fun (g31 : ¬ ((S 31 0 m) = (-1 : Int))) => ?_)
    · refine es_s0 2 (pc' := 38) (ls' := [some (aR 20 (0 : Int)), some (aI m), some (aI (0 : Int)), none, none]) (st' := []) (S' := su S 20 0 0 0) rfl ?_
      refine n71_c (S0 := su S 20 0 0 0) (fun S1 q0 q1 => ?_) 60 _ 0 (by omega) (by omega) (fun _ _ => rfl) (fun q h1 h2 => by omega)
      refine es_s0 4 (pc' := 61) (ls' := [some (aR 20 0), some (aI m), some (aI 0), some (aI 0), none]) (st' := []) (S' := S1) rfl ?_
      have hR1 : RR (su A 0 0 8 0) S1 := (hR.thr).told0 q0 q1
      exact n71_l (A 0 0 6).toNat (su A 0 0 8 0) S1 0 0 none hA.told0 hR1 (TT.zero rfl) (show 0 ≤ m ∧ m < A 0 0 6 from by omega) (by omega) (show 0 + (((A 0 0 6).toNat : Nat) : Int) = A 0 0 6 from by omega) (by omega) (fun S' w1 w2 => h0 (by omega) S' w1 (((Fc.of36 q0).tr w2).thr).1 (((Fc.of36 q0).tr w2).thr).2)
    · refine es_s0 1 (pc' := 35) (ls' := [some (aR 20 (0 : Int)), some (aI m), none, none, none]) (st' := [aI (0 : Int)]) (S' := su S 20 0 0 0) rfl ?_
      refine es_iret rfl rfl rfl (Or.inl rfl) ?_
      exact h1 (by omega)
  · show Es G 71 6 [some (aR 20 (0 : Int)), some (aI m), none, none, none] [aI (0 : Int), aR 20 (0 : Int)] S _ _
    refine es_if rfl 13 rfl ⟨by decide, by decide⟩ (fun (g6 : (0 : Int) = (0 : Int)) => ?_) (fun (g6 : ¬ ((0 : Int) = (0 : Int))) => absurd g6 (by decide))
    refine es_sg 2 (p := ((0 : Int) = 0) ∧ (r32 (1 : Int))) (pc' := 17) (ls' := [some (aR 20 (0 : Int)), some (aI m), none, none, none]) (st' := []) (S' := su S 20 0 0 1) rfl ⟨rfl, ⟨by decide, by decide⟩⟩ ?_
    refine es_rg (fun hg3 => ?_)
    refine es_sg 2 (p := (0 : Int) = 0) (pc' := 21) (ls' := [some (aR 20 (0 : Int)), some (aI m), none, none, none]) (st' := [aI (1 : Int)]) (S' := su S 20 0 0 1) rfl rfl ?_
    refine es_if rfl 34 rfl ⟨by omega, by omega⟩ (fun (g21 : ¬ (1 : Int) = (0 : Int)) => ?_) (fun (g21 : ¬ (¬ (1 : Int) = (0 : Int))) => absurd g21 (by decide))
    refine es_s0 1 (pc' := 35) (ls' := [some (aR 20 (0 : Int)), some (aI m), none, none, none]) (st' := [aI (0 : Int)]) (S' := su S 20 0 0 1) rfl ?_
    refine es_iret rfl rfl rfl (Or.inl rfl) ?_
    exact t1 (by omega)
