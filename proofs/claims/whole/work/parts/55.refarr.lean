/-! THE REFERENCE: array, mirror -/
theorem n117_l {G : Gw} {k : Nat} {Q : AQ} {m w rows dx dy gd nn : Int} (hw : 1 ≤ w ∧ w ≤ 10) (hrs : 1 ≤ rows ∧ rows ≤ 10) (hx : -100000 ≤ dx ∧ dx ≤ 100000) (hy : -100000 ≤ dy ∧ dy ≤ 100000) (hnn : nn = w * rows - 1) (hnb : 0 ≤ nn ∧ nn ≤ 99) : ∀ (n : Nat) (B S : Sg) (kk : Int) (_ : CI B) (_ : RR B S) (_ : (0 ≤ m ∧ m < B 0 0 6) ∧ B 2 m 0 = -1) (_ : B 0 0 6 + n ≤ 20) (_ : B 0 0 5 + n * B 2 m 5 ≤ 60) (_ : 1 ≤ kk) (_ : kk + n = nn + 1) (_ : ∀ S' : Sg, RR (arF n B m w dx dy kk) S' → Fc S S' → Q (.inl (some (aI nn))) S'), Es G 117 152 [some (aR 20 (0 : Int)), some (aI m), some (aI w), some (aI rows), some (aL dx), none, some (aL dy), none, some (aI gd), some (aI nn), some (aI kk)] [] S (k + 4) Q := by
  intro n
  induction n using Nat.strongRecOn with
  | _ n ih =>
    intro B S kk hA hR hm hcc hcp hk hn h
    have n1 := hA.1.1
    have n2 := hA.1.2.1
    refine es_rg (fun hg1 => ?_)
    refine es_s0 2 (pc' := 156) (ls' := [some (aR 20 (0 : Int)), some (aI m), some (aI w), some (aI rows), some (aL dx), none, some (aL dy), none, some (aI gd), some (aI nn), some (aI kk)]) (st' := [aI nn, aI kk]) (S' := S) rfl ?_
    refine es_icmp rfl 188 rfl ⟨by omega, by omega⟩ ⟨by omega, by omega⟩ (fun (g156 : nn < kk) => ?_) (fun (g156 : ¬ (nn < kk)) => ?_)
    · refine es_s0 1 (pc' := 190) (ls' := [some (aR 20 (0 : Int)), some (aI m), some (aI w), some (aI rows), some (aL dx), none, some (aL dy), none, some (aI gd), some (aI nn), some (aI kk)]) (st' := [aI nn]) (S' := S) rfl ?_
      refine es_iret rfl rfl rfl (Or.inl rfl) ?_
      have e : n = 0 := by omega
      subst e
      exact h S hR (Fc.rf S)
    · obtain ⟨n, rfl⟩ : ∃ m, n = m + 1 := ⟨n - 1, by omega⟩
      have hsz := hA.size (c := m) (by omega)
      have hcp2 : ((n + 1 : Nat) : Int) * B 2 m 5 = (n : Int) * B 2 m 5 + B 2 m 5 := by rw [show ((n + 1 : Nat) : Int) = (n : Int) + 1 from by omega, Int.add_mul]; omega
      have hnn0 : 0 ≤ (n : Int) * B 2 m 5 := Int.mul_nonneg (by omega) hsz.1
      have hq1 : 0 ≤ kk % w ∧ kk % w < w := ⟨Int.emod_nonneg _ (by omega), Int.emod_lt_of_pos _ (by omega)⟩
      have hq2 : 0 ≤ kk / w ∧ kk / w < rows := ⟨Int.ediv_nonneg (by omega) (by omega), Int.ediv_lt_of_lt_mul (by omega) (by rw [Int.mul_comm]; omega)⟩
      have hbx := mul_b (i := kk % w) (d := dx) (by omega) hx
      have hby := mul_b (i := kk / w) (d := dy) (by omega) hy
      refine es_sg 6 (p := ((0 ≤ kk ∧ kk < 2147483648) ∧ (0 < w ∧ w < 2147483648)) ∧ (r32 (kk % w))) (pc' := 166) (ls' := [some (aR 20 (0 : Int)), some (aI m), some (aI w), some (aI rows), some (aL dx), none, some (aL dy), none, some (aI gd), some (aI nn), some (aI kk)]) (st' := [aL (kk % w), aI m, aR 20 (0 : Int)]) (S' := S) rfl ⟨(by omega), ⟨by omega, by omega⟩⟩ ?_
      refine es_sg 6 (p := ((0 ≤ kk ∧ kk < 2147483648) ∧ (0 < w ∧ w < 2147483648)) ∧ (r32 (kk / w))) (pc' := 174) (ls' := [some (aR 20 (0 : Int)), some (aI m), some (aI w), some (aI rows), some (aL dx), none, some (aL dy), none, some (aI gd), some (aI nn), some (aI kk)]) (st' := [aL (kk / w), aL ((kk % w) * dx), aI m, aR 20 (0 : Int)]) (S' := S) rfl ⟨(by omega), ⟨by omega, by omega⟩⟩ ?_
      refine es_s0 3 (pc' := 178) (ls' := [some (aR 20 (0 : Int)), some (aI m), some (aI w), some (aI rows), some (aL dx), none, some (aL dy), none, some (aI gd), some (aI nn), some (aI kk)]) (st' := [aI (0 : Int), aL ((kk / w) * dy), aL ((kk % w) * dx), aI m, aR 20 (0 : Int)]) (S' := S) rfl ?_
      refine es_callV rfl rfl 20 (0 : Int) [aI m, aL ((kk % w) * dx), aL ((kk / w) * dy), aI (0 : Int)] [] rfl rfl rfl rfl (Nat.le_of_ble_eq_true rfl) (Nat.le_of_ble_eq_true rfl) (Nat.le_of_ble_eq_true rfl) ?_
      refine n61 (S := S) (A := B) hA hR (m := m) (dx := ((kk % w) * dx)) (dy := ((kk / w) * dy)) (t := (0 : Int)) hm hbx hby (by omega) (by omega) (by omega) (fun S1 j1 j2 => ?_)
      show Es G 117 181 [some (aR 20 (0 : Int)), some (aI m), some (aI w), some (aI rows), some (aL dx), none, some (aL dy), none, some (aI gd), some (aI nn), some (aI kk)] [aI (B 0 0 6)] S1 _ _
      refine es_rg (fun hg2 => ?_)
      refine es_s0 3 (pc' := 152) (ls' := [some (aR 20 (0 : Int)), some (aI m), some (aI w), some (aI rows), some (aL dx), none, some (aL dy), none, some (aI gd), some (aI nn), some (aI (kk + 1))]) (st' := []) (S' := S1) rfl ?_
      unfold arF at h
      rw [if_neg (by omega)] at h
      obtain ⟨g1, g2⟩ := ac_np hA (by omega) hm hbx hby (t := 0) (by omega) (by omega)
      exact ih n (by omega) _ S1 (kk + 1) (hA.ac hm hbx hby (by omega)) j1 (ac_m hm) (by rw [(acF_keep (by omega)).1]; omega) (by rw [g1, g2]; omega) (by omega) (by omega) (fun S' q1 q2 => h S' q1 (j2.tr q2))
theorem n117 {G : Gw} {S : Sg} {k : Nat} {Q : AQ} {A : Sg} (hA : CI A) (hR : RR A S) {m w rows dx dy : Int} (hm : r32 m) (hw : r32 w) (hrs : r32 rows) (hx : r64 dx) (hy : r64 dy) (t1 : ¬ (0 ≤ m ∧ m < A 0 0 6) → Q (.inl (some (aI 0))) (su S 20 0 0 1)) (t2 : (0 ≤ m ∧ m < A 0 0 6) ∧ ¬ ((1 ≤ w ∧ w ≤ 10) ∧ (1 ≤ rows ∧ rows ≤ 10) ∧ (-100000 ≤ dx ∧ dx ≤ 100000) ∧ (-100000 ≤ dy ∧ dy ≤ 100000)) → Q (.inl (some (aI 0))) (su S 20 0 0 2)) (h1 : ((0 ≤ m ∧ m < A 0 0 6) ∧ ((1 ≤ w ∧ w ≤ 10) ∧ (1 ≤ rows ∧ rows ≤ 10) ∧ (-100000 ≤ dx ∧ dx ≤ 100000) ∧ (-100000 ≤ dy ∧ dy ≤ 100000))) ∧ ¬ (A 2 m 0 = -1 ∧ A 0 0 6 + (w * rows - 1) ≤ 20 ∧ A 0 0 5 + (w * rows - 1) * A 2 m 5 ≤ 60) → Q (.inl (some (aI (-1)))) (su S 20 0 0 0)) (h0 : ((0 ≤ m ∧ m < A 0 0 6) ∧ ((1 ≤ w ∧ w ≤ 10) ∧ (1 ≤ rows ∧ rows ≤ 10) ∧ (-100000 ≤ dx ∧ dx ≤ 100000) ∧ (-100000 ≤ dy ∧ dy ≤ 100000))) ∧ (A 2 m 0 = -1 ∧ A 0 0 6 + (w * rows - 1) ≤ 20 ∧ A 0 0 5 + (w * rows - 1) * A 2 m 5 ≤ 60) → ∀ S' : Sg, RR (arF (w * rows).toNat A m w dx dy 0) S' → Fx S S' → S' 20 0 0 = 0 → Q (.inl (some (aI (w * rows - 1)))) S') : Es G 117 0 (aEnt 11 [aR 20 (0 : Int), aI m, aI w, aI rows, aL dx, aL dy]) [] S (k + 4) Q := by
  have n1 := hA.1.1
  have n2 := hA.1.2.1
  have n3 := hA.1.2.2
  have e1 : S 20 0 1 = A 0 0 5 := hR.1.1
  have e10 : S 20 0 10 = A 0 0 6 := hR.1.2.1
  have e17 : S 20 0 17 = A 0 0 7 := hR.1.2.2
  refine es_rg (fun hg1 => ?_)
  refine es_s0 2 (pc' := 2) (ls' := [some (aR 20 (0 : Int)), some (aI m), some (aI w), some (aI rows), some (aL dx), none, some (aL dy), none, none, none, none]) (st' := [aI (1 : Int), aI w]) (S' := S) rfl ?_
  refine es_icmp rfl 62 rfl (by assumption) ⟨by decide, by decide⟩ (fun (g2 : w < (1 : Int)) => ?_) (fun (g2 : ¬ (w < (1 : Int))) => ?_)
  · refine es_s0 5 (pc' := 68) (ls' := [some (aR 20 (0 : Int)), some (aI m), some (aI w), some (aI rows), some (aL dx), none, some (aL dy), none, some (aI (0 : Int)), none, none]) (st' := [aI m, aR 20 (0 : Int), aR 20 (0 : Int)]) (S' := S) rfl ?_
    refine es_callV rfl rfl 20 (0 : Int) [aI m] [aR 20 (0 : Int)] rfl rfl rfl rfl (Nat.le_of_ble_eq_true rfl) (Nat.le_of_ble_eq_true rfl) (Nat.le_of_ble_eq_true rfl) ?_
    refine n39 (S := S) (n := m) (by assumption) (fun hc68 => ?_) (fun hc68 => ?_)
    · show Es G 117 71 [some (aR 20 (0 : Int)), some (aI m), some (aI w), some (aI rows), some (aL dx), none, some (aL dy), none, some (aI (0 : Int)), none, none] [aI (1 : Int), aR 20 (0 : Int)] S _ _
      refine es_if rfl 78 rfl ⟨by decide, by decide⟩ (fun (g71 : ¬ (1 : Int) = (0 : Int)) => ?_) (fun (g71 : ¬ (¬ (1 : Int) = (0 : Int))) => absurd g71 (by decide))
      refine es_s0 1 (pc' := 80) (ls' := [some (aR 20 (0 : Int)), some (aI m), some (aI w), some (aI rows), some (aL dx), none, some (aL dy), none, some (aI (0 : Int)), none, none]) (st' := [aI (0 : Int), aR 20 (0 : Int)]) (S' := S) rfl ?_
      refine es_if rfl 87 rfl ⟨by decide, by decide⟩ (fun (g80 : (0 : Int) = (0 : Int)) => ?_) (fun (g80 : ¬ ((0 : Int) = (0 : Int))) => absurd g80 (by decide))
      refine es_sg 2 (p := ((0 : Int) = 0) ∧ (r32 (2 : Int))) (pc' := 91) (ls' := [some (aR 20 (0 : Int)), some (aI m), some (aI w), some (aI rows), some (aL dx), none, some (aL dy), none, some (aI (0 : Int)), none, none]) (st' := []) (S' := su S 20 0 0 2) rfl ⟨rfl, ⟨by decide, by decide⟩⟩ ?_
      refine es_rg (fun hg2 => ?_)
      refine es_sg 2 (p := (0 : Int) = 0) (pc' := 95) (ls' := [some (aR 20 (0 : Int)), some (aI m), some (aI w), some (aI rows), some (aL dx), none, some (aL dy), none, some (aI (0 : Int)), none, none]) (st' := [aI (2 : Int)]) (S' := su S 20 0 0 2) rfl rfl ?_
      refine es_if rfl 100 rfl ⟨by omega, by omega⟩ (fun (g95 : (2 : Int) = (0 : Int)) => absurd g95 (by decide)) (fun (g95 : ¬ ((2 : Int) = (0 : Int))) => ?_)
      refine es_s0 1 (pc' := 99) (ls' := [some (aR 20 (0 : Int)), some (aI m), some (aI w), some (aI rows), some (aL dx), none, some (aL dy), none, some (aI (0 : Int)), none, none]) (st' := [aI (0 : Int)]) (S' := su S 20 0 0 2) rfl ?_
      refine es_iret rfl rfl rfl (Or.inl rfl) ?_
      first | exact t2 (by omega) | (exfalso; omega)
    · show Es G 117 71 [some (aR 20 (0 : Int)), some (aI m), some (aI w), some (aI rows), some (aL dx), none, some (aL dy), none, some (aI (0 : Int)), none, none] [aI (0 : Int), aR 20 (0 : Int)] S _ _
      refine es_if rfl 78 rfl ⟨by decide, by decide⟩ (fun (g71 : ¬ (0 : Int) = (0 : Int)) => absurd g71 (by decide)) (fun (g71 : ¬ (¬ (0 : Int) = (0 : Int))) => ?_)
      refine es_sg 3 (p := ((0 : Int) = 0) ∧ (r32 (1 : Int))) (pc' := 91) (ls' := [some (aR 20 (0 : Int)), some (aI m), some (aI w), some (aI rows), some (aL dx), none, some (aL dy), none, some (aI (0 : Int)), none, none]) (st' := []) (S' := su S 20 0 0 1) rfl ⟨rfl, ⟨by decide, by decide⟩⟩ ?_
      refine es_rg (fun hg3 => ?_)
      refine es_sg 2 (p := (0 : Int) = 0) (pc' := 95) (ls' := [some (aR 20 (0 : Int)), some (aI m), some (aI w), some (aI rows), some (aL dx), none, some (aL dy), none, some (aI (0 : Int)), none, none]) (st' := [aI (1 : Int)]) (S' := su S 20 0 0 1) rfl rfl ?_
      refine es_if rfl 100 rfl ⟨by omega, by omega⟩ (fun (g95 : (1 : Int) = (0 : Int)) => absurd g95 (by decide)) (fun (g95 : ¬ ((1 : Int) = (0 : Int))) => ?_)
      refine es_s0 1 (pc' := 99) (ls' := [some (aR 20 (0 : Int)), some (aI m), some (aI w), some (aI rows), some (aL dx), none, some (aL dy), none, some (aI (0 : Int)), none, none]) (st' := [aI (0 : Int)]) (S' := su S 20 0 0 1) rfl ?_
      refine es_iret rfl rfl rfl (Or.inl rfl) ?_
      first | exact t1 (by omega) | (exfalso; omega)
  · refine es_s0 2 (pc' := 8) (ls' := [some (aR 20 (0 : Int)), some (aI m), some (aI w), some (aI rows), some (aL dx), none, some (aL dy), none, none, none, none]) (st' := [aI (10 : Int), aI w]) (S' := S) rfl ?_
    refine es_icmp rfl 62 rfl (by assumption) ⟨by decide, by decide⟩ (fun (g8 : (10 : Int) < w) => ?_) (fun (g8 : ¬ ((10 : Int) < w)) => ?_)
    · refine es_s0 5 (pc' := 68) (ls' := [some (aR 20 (0 : Int)), some (aI m), some (aI w), some (aI rows), some (aL dx), none, some (aL dy), none, some (aI (0 : Int)), none, none]) (st' := [aI m, aR 20 (0 : Int), aR 20 (0 : Int)]) (S' := S) rfl ?_
      refine es_callV rfl rfl 20 (0 : Int) [aI m] [aR 20 (0 : Int)] rfl rfl rfl rfl (Nat.le_of_ble_eq_true rfl) (Nat.le_of_ble_eq_true rfl) (Nat.le_of_ble_eq_true rfl) ?_
      refine n39 (S := S) (n := m) (by assumption) (fun hc68 => ?_) (fun hc68 => ?_)
      · show Es G 117 71 [some (aR 20 (0 : Int)), some (aI m), some (aI w), some (aI rows), some (aL dx), none, some (aL dy), none, some (aI (0 : Int)), none, none] [aI (1 : Int), aR 20 (0 : Int)] S _ _
        refine es_if rfl 78 rfl ⟨by decide, by decide⟩ (fun (g71 : ¬ (1 : Int) = (0 : Int)) => ?_) (fun (g71 : ¬ (¬ (1 : Int) = (0 : Int))) => absurd g71 (by decide))
        refine es_s0 1 (pc' := 80) (ls' := [some (aR 20 (0 : Int)), some (aI m), some (aI w), some (aI rows), some (aL dx), none, some (aL dy), none, some (aI (0 : Int)), none, none]) (st' := [aI (0 : Int), aR 20 (0 : Int)]) (S' := S) rfl ?_
        refine es_if rfl 87 rfl ⟨by decide, by decide⟩ (fun (g80 : (0 : Int) = (0 : Int)) => ?_) (fun (g80 : ¬ ((0 : Int) = (0 : Int))) => absurd g80 (by decide))
        refine es_sg 2 (p := ((0 : Int) = 0) ∧ (r32 (2 : Int))) (pc' := 91) (ls' := [some (aR 20 (0 : Int)), some (aI m), some (aI w), some (aI rows), some (aL dx), none, some (aL dy), none, some (aI (0 : Int)), none, none]) (st' := []) (S' := su S 20 0 0 2) rfl ⟨rfl, ⟨by decide, by decide⟩⟩ ?_
        refine es_rg (fun hg4 => ?_)
        refine es_sg 2 (p := (0 : Int) = 0) (pc' := 95) (ls' := [some (aR 20 (0 : Int)), some (aI m), some (aI w), some (aI rows), some (aL dx), none, some (aL dy), none, some (aI (0 : Int)), none, none]) (st' := [aI (2 : Int)]) (S' := su S 20 0 0 2) rfl rfl ?_
        refine es_if rfl 100 rfl ⟨by omega, by omega⟩ (fun (g95 : (2 : Int) = (0 : Int)) => absurd g95 (by decide)) (fun (g95 : ¬ ((2 : Int) = (0 : Int))) => ?_)
        refine es_s0 1 (pc' := 99) (ls' := [some (aR 20 (0 : Int)), some (aI m), some (aI w), some (aI rows), some (aL dx), none, some (aL dy), none, some (aI (0 : Int)), none, none]) (st' := [aI (0 : Int)]) (S' := su S 20 0 0 2) rfl ?_
        refine es_iret rfl rfl rfl (Or.inl rfl) ?_
        first | exact t2 (by omega) | (exfalso; omega)
      · show Es G 117 71 [some (aR 20 (0 : Int)), some (aI m), some (aI w), some (aI rows), some (aL dx), none, some (aL dy), none, some (aI (0 : Int)), none, none] [aI (0 : Int), aR 20 (0 : Int)] S _ _
        refine es_if rfl 78 rfl ⟨by decide, by decide⟩ (fun (g71 : ¬ (0 : Int) = (0 : Int)) => absurd g71 (by decide)) (fun (g71 : ¬ (¬ (0 : Int) = (0 : Int))) => ?_)
        refine es_sg 3 (p := ((0 : Int) = 0) ∧ (r32 (1 : Int))) (pc' := 91) (ls' := [some (aR 20 (0 : Int)), some (aI m), some (aI w), some (aI rows), some (aL dx), none, some (aL dy), none, some (aI (0 : Int)), none, none]) (st' := []) (S' := su S 20 0 0 1) rfl ⟨rfl, ⟨by decide, by decide⟩⟩ ?_
        refine es_rg (fun hg5 => ?_)
        refine es_sg 2 (p := (0 : Int) = 0) (pc' := 95) (ls' := [some (aR 20 (0 : Int)), some (aI m), some (aI w), some (aI rows), some (aL dx), none, some (aL dy), none, some (aI (0 : Int)), none, none]) (st' := [aI (1 : Int)]) (S' := su S 20 0 0 1) rfl rfl ?_
        refine es_if rfl 100 rfl ⟨by omega, by omega⟩ (fun (g95 : (1 : Int) = (0 : Int)) => absurd g95 (by decide)) (fun (g95 : ¬ ((1 : Int) = (0 : Int))) => ?_)
        refine es_s0 1 (pc' := 99) (ls' := [some (aR 20 (0 : Int)), some (aI m), some (aI w), some (aI rows), some (aL dx), none, some (aL dy), none, some (aI (0 : Int)), none, none]) (st' := [aI (0 : Int)]) (S' := su S 20 0 0 1) rfl ?_
        refine es_iret rfl rfl rfl (Or.inl rfl) ?_
        first | exact t1 (by omega) | (exfalso; omega)
    · refine es_s0 2 (pc' := 13) (ls' := [some (aR 20 (0 : Int)), some (aI m), some (aI w), some (aI rows), some (aL dx), none, some (aL dy), none, none, none, none]) (st' := [aI (1 : Int), aI rows]) (S' := S) rfl ?_
      refine es_icmp rfl 62 rfl (by assumption) ⟨by decide, by decide⟩ (fun (g13 : rows < (1 : Int)) => ?_) (fun (g13 : ¬ (rows < (1 : Int))) => ?_)
      · refine es_s0 5 (pc' := 68) (ls' := [some (aR 20 (0 : Int)), some (aI m), some (aI w), some (aI rows), some (aL dx), none, some (aL dy), none, some (aI (0 : Int)), none, none]) (st' := [aI m, aR 20 (0 : Int), aR 20 (0 : Int)]) (S' := S) rfl ?_
        refine es_callV rfl rfl 20 (0 : Int) [aI m] [aR 20 (0 : Int)] rfl rfl rfl rfl (Nat.le_of_ble_eq_true rfl) (Nat.le_of_ble_eq_true rfl) (Nat.le_of_ble_eq_true rfl) ?_
        refine n39 (S := S) (n := m) (by assumption) (fun hc68 => ?_) (fun hc68 => ?_)
        · show Es G 117 71 [some (aR 20 (0 : Int)), some (aI m), some (aI w), some (aI rows), some (aL dx), none, some (aL dy), none, some (aI (0 : Int)), none, none] [aI (1 : Int), aR 20 (0 : Int)] S _ _
          refine es_if rfl 78 rfl ⟨by decide, by decide⟩ (fun (g71 : ¬ (1 : Int) = (0 : Int)) => ?_) (fun (g71 : ¬ (¬ (1 : Int) = (0 : Int))) => absurd g71 (by decide))
          refine es_s0 1 (pc' := 80) (ls' := [some (aR 20 (0 : Int)), some (aI m), some (aI w), some (aI rows), some (aL dx), none, some (aL dy), none, some (aI (0 : Int)), none, none]) (st' := [aI (0 : Int), aR 20 (0 : Int)]) (S' := S) rfl ?_
          refine es_if rfl 87 rfl ⟨by decide, by decide⟩ (fun (g80 : (0 : Int) = (0 : Int)) => ?_) (fun (g80 : ¬ ((0 : Int) = (0 : Int))) => absurd g80 (by decide))
          refine es_sg 2 (p := ((0 : Int) = 0) ∧ (r32 (2 : Int))) (pc' := 91) (ls' := [some (aR 20 (0 : Int)), some (aI m), some (aI w), some (aI rows), some (aL dx), none, some (aL dy), none, some (aI (0 : Int)), none, none]) (st' := []) (S' := su S 20 0 0 2) rfl ⟨rfl, ⟨by decide, by decide⟩⟩ ?_
          refine es_rg (fun hg6 => ?_)
          refine es_sg 2 (p := (0 : Int) = 0) (pc' := 95) (ls' := [some (aR 20 (0 : Int)), some (aI m), some (aI w), some (aI rows), some (aL dx), none, some (aL dy), none, some (aI (0 : Int)), none, none]) (st' := [aI (2 : Int)]) (S' := su S 20 0 0 2) rfl rfl ?_
          refine es_if rfl 100 rfl ⟨by omega, by omega⟩ (fun (g95 : (2 : Int) = (0 : Int)) => absurd g95 (by decide)) (fun (g95 : ¬ ((2 : Int) = (0 : Int))) => ?_)
          refine es_s0 1 (pc' := 99) (ls' := [some (aR 20 (0 : Int)), some (aI m), some (aI w), some (aI rows), some (aL dx), none, some (aL dy), none, some (aI (0 : Int)), none, none]) (st' := [aI (0 : Int)]) (S' := su S 20 0 0 2) rfl ?_
          refine es_iret rfl rfl rfl (Or.inl rfl) ?_
          first | exact t2 (by omega) | (exfalso; omega)
        · show Es G 117 71 [some (aR 20 (0 : Int)), some (aI m), some (aI w), some (aI rows), some (aL dx), none, some (aL dy), none, some (aI (0 : Int)), none, none] [aI (0 : Int), aR 20 (0 : Int)] S _ _
          refine es_if rfl 78 rfl ⟨by decide, by decide⟩ (fun (g71 : ¬ (0 : Int) = (0 : Int)) => absurd g71 (by decide)) (fun (g71 : ¬ (¬ (0 : Int) = (0 : Int))) => ?_)
          refine es_sg 3 (p := ((0 : Int) = 0) ∧ (r32 (1 : Int))) (pc' := 91) (ls' := [some (aR 20 (0 : Int)), some (aI m), some (aI w), some (aI rows), some (aL dx), none, some (aL dy), none, some (aI (0 : Int)), none, none]) (st' := []) (S' := su S 20 0 0 1) rfl ⟨rfl, ⟨by decide, by decide⟩⟩ ?_
          refine es_rg (fun hg7 => ?_)
          refine es_sg 2 (p := (0 : Int) = 0) (pc' := 95) (ls' := [some (aR 20 (0 : Int)), some (aI m), some (aI w), some (aI rows), some (aL dx), none, some (aL dy), none, some (aI (0 : Int)), none, none]) (st' := [aI (1 : Int)]) (S' := su S 20 0 0 1) rfl rfl ?_
          refine es_if rfl 100 rfl ⟨by omega, by omega⟩ (fun (g95 : (1 : Int) = (0 : Int)) => absurd g95 (by decide)) (fun (g95 : ¬ ((1 : Int) = (0 : Int))) => ?_)
          refine es_s0 1 (pc' := 99) (ls' := [some (aR 20 (0 : Int)), some (aI m), some (aI w), some (aI rows), some (aL dx), none, some (aL dy), none, some (aI (0 : Int)), none, none]) (st' := [aI (0 : Int)]) (S' := su S 20 0 0 1) rfl ?_
          refine es_iret rfl rfl rfl (Or.inl rfl) ?_
          first | exact t1 (by omega) | (exfalso; omega)
      · refine es_s0 2 (pc' := 19) (ls' := [some (aR 20 (0 : Int)), some (aI m), some (aI w), some (aI rows), some (aL dx), none, some (aL dy), none, none, none, none]) (st' := [aI (10 : Int), aI rows]) (S' := S) rfl ?_
        refine es_icmp rfl 62 rfl (by assumption) ⟨by decide, by decide⟩ (fun (g19 : (10 : Int) < rows) => ?_) (fun (g19 : ¬ ((10 : Int) < rows)) => ?_)
        · refine es_s0 5 (pc' := 68) (ls' := [some (aR 20 (0 : Int)), some (aI m), some (aI w), some (aI rows), some (aL dx), none, some (aL dy), none, some (aI (0 : Int)), none, none]) (st' := [aI m, aR 20 (0 : Int), aR 20 (0 : Int)]) (S' := S) rfl ?_
          refine es_callV rfl rfl 20 (0 : Int) [aI m] [aR 20 (0 : Int)] rfl rfl rfl rfl (Nat.le_of_ble_eq_true rfl) (Nat.le_of_ble_eq_true rfl) (Nat.le_of_ble_eq_true rfl) ?_
          refine n39 (S := S) (n := m) (by assumption) (fun hc68 => ?_) (fun hc68 => ?_)
          · show Es G 117 71 [some (aR 20 (0 : Int)), some (aI m), some (aI w), some (aI rows), some (aL dx), none, some (aL dy), none, some (aI (0 : Int)), none, none] [aI (1 : Int), aR 20 (0 : Int)] S _ _
            refine es_if rfl 78 rfl ⟨by decide, by decide⟩ (fun (g71 : ¬ (1 : Int) = (0 : Int)) => ?_) (fun (g71 : ¬ (¬ (1 : Int) = (0 : Int))) => absurd g71 (by decide))
            refine es_s0 1 (pc' := 80) (ls' := [some (aR 20 (0 : Int)), some (aI m), some (aI w), some (aI rows), some (aL dx), none, some (aL dy), none, some (aI (0 : Int)), none, none]) (st' := [aI (0 : Int), aR 20 (0 : Int)]) (S' := S) rfl ?_
            refine es_if rfl 87 rfl ⟨by decide, by decide⟩ (fun (g80 : (0 : Int) = (0 : Int)) => ?_) (fun (g80 : ¬ ((0 : Int) = (0 : Int))) => absurd g80 (by decide))
            refine es_sg 2 (p := ((0 : Int) = 0) ∧ (r32 (2 : Int))) (pc' := 91) (ls' := [some (aR 20 (0 : Int)), some (aI m), some (aI w), some (aI rows), some (aL dx), none, some (aL dy), none, some (aI (0 : Int)), none, none]) (st' := []) (S' := su S 20 0 0 2) rfl ⟨rfl, ⟨by decide, by decide⟩⟩ ?_
            refine es_rg (fun hg8 => ?_)
            refine es_sg 2 (p := (0 : Int) = 0) (pc' := 95) (ls' := [some (aR 20 (0 : Int)), some (aI m), some (aI w), some (aI rows), some (aL dx), none, some (aL dy), none, some (aI (0 : Int)), none, none]) (st' := [aI (2 : Int)]) (S' := su S 20 0 0 2) rfl rfl ?_
            refine es_if rfl 100 rfl ⟨by omega, by omega⟩ (fun (g95 : (2 : Int) = (0 : Int)) => absurd g95 (by decide)) (fun (g95 : ¬ ((2 : Int) = (0 : Int))) => ?_)
            refine es_s0 1 (pc' := 99) (ls' := [some (aR 20 (0 : Int)), some (aI m), some (aI w), some (aI rows), some (aL dx), none, some (aL dy), none, some (aI (0 : Int)), none, none]) (st' := [aI (0 : Int)]) (S' := su S 20 0 0 2) rfl ?_
            refine es_iret rfl rfl rfl (Or.inl rfl) ?_
            first | exact t2 (by omega) | (exfalso; omega)
          · show Es G 117 71 [some (aR 20 (0 : Int)), some (aI m), some (aI w), some (aI rows), some (aL dx), none, some (aL dy), none, some (aI (0 : Int)), none, none] [aI (0 : Int), aR 20 (0 : Int)] S _ _
            refine es_if rfl 78 rfl ⟨by decide, by decide⟩ (fun (g71 : ¬ (0 : Int) = (0 : Int)) => absurd g71 (by decide)) (fun (g71 : ¬ (¬ (0 : Int) = (0 : Int))) => ?_)
            refine es_sg 3 (p := ((0 : Int) = 0) ∧ (r32 (1 : Int))) (pc' := 91) (ls' := [some (aR 20 (0 : Int)), some (aI m), some (aI w), some (aI rows), some (aL dx), none, some (aL dy), none, some (aI (0 : Int)), none, none]) (st' := []) (S' := su S 20 0 0 1) rfl ⟨rfl, ⟨by decide, by decide⟩⟩ ?_
            refine es_rg (fun hg9 => ?_)
            refine es_sg 2 (p := (0 : Int) = 0) (pc' := 95) (ls' := [some (aR 20 (0 : Int)), some (aI m), some (aI w), some (aI rows), some (aL dx), none, some (aL dy), none, some (aI (0 : Int)), none, none]) (st' := [aI (1 : Int)]) (S' := su S 20 0 0 1) rfl rfl ?_
            refine es_if rfl 100 rfl ⟨by omega, by omega⟩ (fun (g95 : (1 : Int) = (0 : Int)) => absurd g95 (by decide)) (fun (g95 : ¬ ((1 : Int) = (0 : Int))) => ?_)
            refine es_s0 1 (pc' := 99) (ls' := [some (aR 20 (0 : Int)), some (aI m), some (aI w), some (aI rows), some (aL dx), none, some (aL dy), none, some (aI (0 : Int)), none, none]) (st' := [aI (0 : Int)]) (S' := su S 20 0 0 1) rfl ?_
            refine es_iret rfl rfl rfl (Or.inl rfl) ?_
            first | exact t1 (by omega) | (exfalso; omega)
        · refine es_s0 2 (pc' := 27) (ls' := [some (aR 20 (0 : Int)), some (aI m), some (aI w), some (aI rows), some (aL dx), none, some (aL dy), none, none, none, none]) (st' := [aL (-100000 : Int), aL dx]) (S' := S) rfl ?_
          refine es_lif rfl rfl 62 rfl (by assumption) ⟨by decide, by decide⟩ (fun (g27 : dx < (-100000 : Int)) => ?_) (fun (g27 : ¬ (dx < (-100000 : Int))) => ?_)
          · refine es_s0 5 (pc' := 68) (ls' := [some (aR 20 (0 : Int)), some (aI m), some (aI w), some (aI rows), some (aL dx), none, some (aL dy), none, some (aI (0 : Int)), none, none]) (st' := [aI m, aR 20 (0 : Int), aR 20 (0 : Int)]) (S' := S) rfl ?_
            refine es_callV rfl rfl 20 (0 : Int) [aI m] [aR 20 (0 : Int)] rfl rfl rfl rfl (Nat.le_of_ble_eq_true rfl) (Nat.le_of_ble_eq_true rfl) (Nat.le_of_ble_eq_true rfl) ?_
            refine n39 (S := S) (n := m) (by assumption) (fun hc68 => ?_) (fun hc68 => ?_)
            · show Es G 117 71 [some (aR 20 (0 : Int)), some (aI m), some (aI w), some (aI rows), some (aL dx), none, some (aL dy), none, some (aI (0 : Int)), none, none] [aI (1 : Int), aR 20 (0 : Int)] S _ _
              refine es_if rfl 78 rfl ⟨by decide, by decide⟩ (fun (g71 : ¬ (1 : Int) = (0 : Int)) => ?_) (fun (g71 : ¬ (¬ (1 : Int) = (0 : Int))) => absurd g71 (by decide))
              refine es_s0 1 (pc' := 80) (ls' := [some (aR 20 (0 : Int)), some (aI m), some (aI w), some (aI rows), some (aL dx), none, some (aL dy), none, some (aI (0 : Int)), none, none]) (st' := [aI (0 : Int), aR 20 (0 : Int)]) (S' := S) rfl ?_
              refine es_if rfl 87 rfl ⟨by decide, by decide⟩ (fun (g80 : (0 : Int) = (0 : Int)) => ?_) (fun (g80 : ¬ ((0 : Int) = (0 : Int))) => absurd g80 (by decide))
              refine es_sg 2 (p := ((0 : Int) = 0) ∧ (r32 (2 : Int))) (pc' := 91) (ls' := [some (aR 20 (0 : Int)), some (aI m), some (aI w), some (aI rows), some (aL dx), none, some (aL dy), none, some (aI (0 : Int)), none, none]) (st' := []) (S' := su S 20 0 0 2) rfl ⟨rfl, ⟨by decide, by decide⟩⟩ ?_
              refine es_rg (fun hg10 => ?_)
              refine es_sg 2 (p := (0 : Int) = 0) (pc' := 95) (ls' := [some (aR 20 (0 : Int)), some (aI m), some (aI w), some (aI rows), some (aL dx), none, some (aL dy), none, some (aI (0 : Int)), none, none]) (st' := [aI (2 : Int)]) (S' := su S 20 0 0 2) rfl rfl ?_
              refine es_if rfl 100 rfl ⟨by omega, by omega⟩ (fun (g95 : (2 : Int) = (0 : Int)) => absurd g95 (by decide)) (fun (g95 : ¬ ((2 : Int) = (0 : Int))) => ?_)
              refine es_s0 1 (pc' := 99) (ls' := [some (aR 20 (0 : Int)), some (aI m), some (aI w), some (aI rows), some (aL dx), none, some (aL dy), none, some (aI (0 : Int)), none, none]) (st' := [aI (0 : Int)]) (S' := su S 20 0 0 2) rfl ?_
              refine es_iret rfl rfl rfl (Or.inl rfl) ?_
              first | exact t2 (by omega) | (exfalso; omega)
            · show Es G 117 71 [some (aR 20 (0 : Int)), some (aI m), some (aI w), some (aI rows), some (aL dx), none, some (aL dy), none, some (aI (0 : Int)), none, none] [aI (0 : Int), aR 20 (0 : Int)] S _ _
              refine es_if rfl 78 rfl ⟨by decide, by decide⟩ (fun (g71 : ¬ (0 : Int) = (0 : Int)) => absurd g71 (by decide)) (fun (g71 : ¬ (¬ (0 : Int) = (0 : Int))) => ?_)
              refine es_sg 3 (p := ((0 : Int) = 0) ∧ (r32 (1 : Int))) (pc' := 91) (ls' := [some (aR 20 (0 : Int)), some (aI m), some (aI w), some (aI rows), some (aL dx), none, some (aL dy), none, some (aI (0 : Int)), none, none]) (st' := []) (S' := su S 20 0 0 1) rfl ⟨rfl, ⟨by decide, by decide⟩⟩ ?_
              refine es_rg (fun hg11 => ?_)
              refine es_sg 2 (p := (0 : Int) = 0) (pc' := 95) (ls' := [some (aR 20 (0 : Int)), some (aI m), some (aI w), some (aI rows), some (aL dx), none, some (aL dy), none, some (aI (0 : Int)), none, none]) (st' := [aI (1 : Int)]) (S' := su S 20 0 0 1) rfl rfl ?_
              refine es_if rfl 100 rfl ⟨by omega, by omega⟩ (fun (g95 : (1 : Int) = (0 : Int)) => absurd g95 (by decide)) (fun (g95 : ¬ ((1 : Int) = (0 : Int))) => ?_)
              refine es_s0 1 (pc' := 99) (ls' := [some (aR 20 (0 : Int)), some (aI m), some (aI w), some (aI rows), some (aL dx), none, some (aL dy), none, some (aI (0 : Int)), none, none]) (st' := [aI (0 : Int)]) (S' := su S 20 0 0 1) rfl ?_
              refine es_iret rfl rfl rfl (Or.inl rfl) ?_
              first | exact t1 (by omega) | (exfalso; omega)
          · refine es_s0 2 (pc' := 36) (ls' := [some (aR 20 (0 : Int)), some (aI m), some (aI w), some (aI rows), some (aL dx), none, some (aL dy), none, none, none, none]) (st' := [aL (100000 : Int), aL dx]) (S' := S) rfl ?_
            refine es_lif rfl rfl 62 rfl (by assumption) ⟨by decide, by decide⟩ (fun (g36 : (100000 : Int) < dx) => ?_) (fun (g36 : ¬ ((100000 : Int) < dx)) => ?_)
            · refine es_s0 5 (pc' := 68) (ls' := [some (aR 20 (0 : Int)), some (aI m), some (aI w), some (aI rows), some (aL dx), none, some (aL dy), none, some (aI (0 : Int)), none, none]) (st' := [aI m, aR 20 (0 : Int), aR 20 (0 : Int)]) (S' := S) rfl ?_
              refine es_callV rfl rfl 20 (0 : Int) [aI m] [aR 20 (0 : Int)] rfl rfl rfl rfl (Nat.le_of_ble_eq_true rfl) (Nat.le_of_ble_eq_true rfl) (Nat.le_of_ble_eq_true rfl) ?_
              refine n39 (S := S) (n := m) (by assumption) (fun hc68 => ?_) (fun hc68 => ?_)
              · show Es G 117 71 [some (aR 20 (0 : Int)), some (aI m), some (aI w), some (aI rows), some (aL dx), none, some (aL dy), none, some (aI (0 : Int)), none, none] [aI (1 : Int), aR 20 (0 : Int)] S _ _
                refine es_if rfl 78 rfl ⟨by decide, by decide⟩ (fun (g71 : ¬ (1 : Int) = (0 : Int)) => ?_) (fun (g71 : ¬ (¬ (1 : Int) = (0 : Int))) => absurd g71 (by decide))
                refine es_s0 1 (pc' := 80) (ls' := [some (aR 20 (0 : Int)), some (aI m), some (aI w), some (aI rows), some (aL dx), none, some (aL dy), none, some (aI (0 : Int)), none, none]) (st' := [aI (0 : Int), aR 20 (0 : Int)]) (S' := S) rfl ?_
                refine es_if rfl 87 rfl ⟨by decide, by decide⟩ (fun (g80 : (0 : Int) = (0 : Int)) => ?_) (fun (g80 : ¬ ((0 : Int) = (0 : Int))) => absurd g80 (by decide))
                refine es_sg 2 (p := ((0 : Int) = 0) ∧ (r32 (2 : Int))) (pc' := 91) (ls' := [some (aR 20 (0 : Int)), some (aI m), some (aI w), some (aI rows), some (aL dx), none, some (aL dy), none, some (aI (0 : Int)), none, none]) (st' := []) (S' := su S 20 0 0 2) rfl ⟨rfl, ⟨by decide, by decide⟩⟩ ?_
                refine es_rg (fun hg12 => ?_)
                refine es_sg 2 (p := (0 : Int) = 0) (pc' := 95) (ls' := [some (aR 20 (0 : Int)), some (aI m), some (aI w), some (aI rows), some (aL dx), none, some (aL dy), none, some (aI (0 : Int)), none, none]) (st' := [aI (2 : Int)]) (S' := su S 20 0 0 2) rfl rfl ?_
                refine es_if rfl 100 rfl ⟨by omega, by omega⟩ (fun (g95 : (2 : Int) = (0 : Int)) => absurd g95 (by decide)) (fun (g95 : ¬ ((2 : Int) = (0 : Int))) => ?_)
                refine es_s0 1 (pc' := 99) (ls' := [some (aR 20 (0 : Int)), some (aI m), some (aI w), some (aI rows), some (aL dx), none, some (aL dy), none, some (aI (0 : Int)), none, none]) (st' := [aI (0 : Int)]) (S' := su S 20 0 0 2) rfl ?_
                refine es_iret rfl rfl rfl (Or.inl rfl) ?_
                first | exact t2 (by omega) | (exfalso; omega)
              · show Es G 117 71 [some (aR 20 (0 : Int)), some (aI m), some (aI w), some (aI rows), some (aL dx), none, some (aL dy), none, some (aI (0 : Int)), none, none] [aI (0 : Int), aR 20 (0 : Int)] S _ _
                refine es_if rfl 78 rfl ⟨by decide, by decide⟩ (fun (g71 : ¬ (0 : Int) = (0 : Int)) => absurd g71 (by decide)) (fun (g71 : ¬ (¬ (0 : Int) = (0 : Int))) => ?_)
                refine es_sg 3 (p := ((0 : Int) = 0) ∧ (r32 (1 : Int))) (pc' := 91) (ls' := [some (aR 20 (0 : Int)), some (aI m), some (aI w), some (aI rows), some (aL dx), none, some (aL dy), none, some (aI (0 : Int)), none, none]) (st' := []) (S' := su S 20 0 0 1) rfl ⟨rfl, ⟨by decide, by decide⟩⟩ ?_
                refine es_rg (fun hg13 => ?_)
                refine es_sg 2 (p := (0 : Int) = 0) (pc' := 95) (ls' := [some (aR 20 (0 : Int)), some (aI m), some (aI w), some (aI rows), some (aL dx), none, some (aL dy), none, some (aI (0 : Int)), none, none]) (st' := [aI (1 : Int)]) (S' := su S 20 0 0 1) rfl rfl ?_
                refine es_if rfl 100 rfl ⟨by omega, by omega⟩ (fun (g95 : (1 : Int) = (0 : Int)) => absurd g95 (by decide)) (fun (g95 : ¬ ((1 : Int) = (0 : Int))) => ?_)
                refine es_s0 1 (pc' := 99) (ls' := [some (aR 20 (0 : Int)), some (aI m), some (aI w), some (aI rows), some (aL dx), none, some (aL dy), none, some (aI (0 : Int)), none, none]) (st' := [aI (0 : Int)]) (S' := su S 20 0 0 1) rfl ?_
                refine es_iret rfl rfl rfl (Or.inl rfl) ?_
                first | exact t1 (by omega) | (exfalso; omega)
            · refine es_s0 2 (pc' := 45) (ls' := [some (aR 20 (0 : Int)), some (aI m), some (aI w), some (aI rows), some (aL dx), none, some (aL dy), none, none, none, none]) (st' := [aL (-100000 : Int), aL dy]) (S' := S) rfl ?_
              refine es_lif rfl rfl 62 rfl (by assumption) ⟨by decide, by decide⟩ (fun (g45 : dy < (-100000 : Int)) => ?_) (fun (g45 : ¬ (dy < (-100000 : Int))) => ?_)
              · refine es_s0 5 (pc' := 68) (ls' := [some (aR 20 (0 : Int)), some (aI m), some (aI w), some (aI rows), some (aL dx), none, some (aL dy), none, some (aI (0 : Int)), none, none]) (st' := [aI m, aR 20 (0 : Int), aR 20 (0 : Int)]) (S' := S) rfl ?_
                refine es_callV rfl rfl 20 (0 : Int) [aI m] [aR 20 (0 : Int)] rfl rfl rfl rfl (Nat.le_of_ble_eq_true rfl) (Nat.le_of_ble_eq_true rfl) (Nat.le_of_ble_eq_true rfl) ?_
                refine n39 (S := S) (n := m) (by assumption) (fun hc68 => ?_) (fun hc68 => ?_)
                · show Es G 117 71 [some (aR 20 (0 : Int)), some (aI m), some (aI w), some (aI rows), some (aL dx), none, some (aL dy), none, some (aI (0 : Int)), none, none] [aI (1 : Int), aR 20 (0 : Int)] S _ _
                  refine es_if rfl 78 rfl ⟨by decide, by decide⟩ (fun (g71 : ¬ (1 : Int) = (0 : Int)) => ?_) (fun (g71 : ¬ (¬ (1 : Int) = (0 : Int))) => absurd g71 (by decide))
                  refine es_s0 1 (pc' := 80) (ls' := [some (aR 20 (0 : Int)), some (aI m), some (aI w), some (aI rows), some (aL dx), none, some (aL dy), none, some (aI (0 : Int)), none, none]) (st' := [aI (0 : Int), aR 20 (0 : Int)]) (S' := S) rfl ?_
                  refine es_if rfl 87 rfl ⟨by decide, by decide⟩ (fun (g80 : (0 : Int) = (0 : Int)) => ?_) (fun (g80 : ¬ ((0 : Int) = (0 : Int))) => absurd g80 (by decide))
                  refine es_sg 2 (p := ((0 : Int) = 0) ∧ (r32 (2 : Int))) (pc' := 91) (ls' := [some (aR 20 (0 : Int)), some (aI m), some (aI w), some (aI rows), some (aL dx), none, some (aL dy), none, some (aI (0 : Int)), none, none]) (st' := []) (S' := su S 20 0 0 2) rfl ⟨rfl, ⟨by decide, by decide⟩⟩ ?_
                  refine es_rg (fun hg14 => ?_)
                  refine es_sg 2 (p := (0 : Int) = 0) (pc' := 95) (ls' := [some (aR 20 (0 : Int)), some (aI m), some (aI w), some (aI rows), some (aL dx), none, some (aL dy), none, some (aI (0 : Int)), none, none]) (st' := [aI (2 : Int)]) (S' := su S 20 0 0 2) rfl rfl ?_
                  refine es_if rfl 100 rfl ⟨by omega, by omega⟩ (fun (g95 : (2 : Int) = (0 : Int)) => absurd g95 (by decide)) (fun (g95 : ¬ ((2 : Int) = (0 : Int))) => ?_)
                  refine es_s0 1 (pc' := 99) (ls' := [some (aR 20 (0 : Int)), some (aI m), some (aI w), some (aI rows), some (aL dx), none, some (aL dy), none, some (aI (0 : Int)), none, none]) (st' := [aI (0 : Int)]) (S' := su S 20 0 0 2) rfl ?_
                  refine es_iret rfl rfl rfl (Or.inl rfl) ?_
                  first | exact t2 (by omega) | (exfalso; omega)
                · show Es G 117 71 [some (aR 20 (0 : Int)), some (aI m), some (aI w), some (aI rows), some (aL dx), none, some (aL dy), none, some (aI (0 : Int)), none, none] [aI (0 : Int), aR 20 (0 : Int)] S _ _
                  refine es_if rfl 78 rfl ⟨by decide, by decide⟩ (fun (g71 : ¬ (0 : Int) = (0 : Int)) => absurd g71 (by decide)) (fun (g71 : ¬ (¬ (0 : Int) = (0 : Int))) => ?_)
                  refine es_sg 3 (p := ((0 : Int) = 0) ∧ (r32 (1 : Int))) (pc' := 91) (ls' := [some (aR 20 (0 : Int)), some (aI m), some (aI w), some (aI rows), some (aL dx), none, some (aL dy), none, some (aI (0 : Int)), none, none]) (st' := []) (S' := su S 20 0 0 1) rfl ⟨rfl, ⟨by decide, by decide⟩⟩ ?_
                  refine es_rg (fun hg15 => ?_)
                  refine es_sg 2 (p := (0 : Int) = 0) (pc' := 95) (ls' := [some (aR 20 (0 : Int)), some (aI m), some (aI w), some (aI rows), some (aL dx), none, some (aL dy), none, some (aI (0 : Int)), none, none]) (st' := [aI (1 : Int)]) (S' := su S 20 0 0 1) rfl rfl ?_
                  refine es_if rfl 100 rfl ⟨by omega, by omega⟩ (fun (g95 : (1 : Int) = (0 : Int)) => absurd g95 (by decide)) (fun (g95 : ¬ ((1 : Int) = (0 : Int))) => ?_)
                  refine es_s0 1 (pc' := 99) (ls' := [some (aR 20 (0 : Int)), some (aI m), some (aI w), some (aI rows), some (aL dx), none, some (aL dy), none, some (aI (0 : Int)), none, none]) (st' := [aI (0 : Int)]) (S' := su S 20 0 0 1) rfl ?_
                  refine es_iret rfl rfl rfl (Or.inl rfl) ?_
                  first | exact t1 (by omega) | (exfalso; omega)
              · refine es_s0 2 (pc' := 54) (ls' := [some (aR 20 (0 : Int)), some (aI m), some (aI w), some (aI rows), some (aL dx), none, some (aL dy), none, none, none, none]) (st' := [aL (100000 : Int), aL dy]) (S' := S) rfl ?_
                refine es_lif rfl rfl 62 rfl (by assumption) ⟨by decide, by decide⟩ (fun (g54 : (100000 : Int) < dy) => ?_) (fun (g54 : ¬ ((100000 : Int) < dy)) => ?_)
                · refine es_s0 5 (pc' := 68) (ls' := [some (aR 20 (0 : Int)), some (aI m), some (aI w), some (aI rows), some (aL dx), none, some (aL dy), none, some (aI (0 : Int)), none, none]) (st' := [aI m, aR 20 (0 : Int), aR 20 (0 : Int)]) (S' := S) rfl ?_
                  refine es_callV rfl rfl 20 (0 : Int) [aI m] [aR 20 (0 : Int)] rfl rfl rfl rfl (Nat.le_of_ble_eq_true rfl) (Nat.le_of_ble_eq_true rfl) (Nat.le_of_ble_eq_true rfl) ?_
                  refine n39 (S := S) (n := m) (by assumption) (fun hc68 => ?_) (fun hc68 => ?_)
                  · show Es G 117 71 [some (aR 20 (0 : Int)), some (aI m), some (aI w), some (aI rows), some (aL dx), none, some (aL dy), none, some (aI (0 : Int)), none, none] [aI (1 : Int), aR 20 (0 : Int)] S _ _
                    refine es_if rfl 78 rfl ⟨by decide, by decide⟩ (fun (g71 : ¬ (1 : Int) = (0 : Int)) => ?_) (fun (g71 : ¬ (¬ (1 : Int) = (0 : Int))) => absurd g71 (by decide))
                    refine es_s0 1 (pc' := 80) (ls' := [some (aR 20 (0 : Int)), some (aI m), some (aI w), some (aI rows), some (aL dx), none, some (aL dy), none, some (aI (0 : Int)), none, none]) (st' := [aI (0 : Int), aR 20 (0 : Int)]) (S' := S) rfl ?_
                    refine es_if rfl 87 rfl ⟨by decide, by decide⟩ (fun (g80 : (0 : Int) = (0 : Int)) => ?_) (fun (g80 : ¬ ((0 : Int) = (0 : Int))) => absurd g80 (by decide))
                    refine es_sg 2 (p := ((0 : Int) = 0) ∧ (r32 (2 : Int))) (pc' := 91) (ls' := [some (aR 20 (0 : Int)), some (aI m), some (aI w), some (aI rows), some (aL dx), none, some (aL dy), none, some (aI (0 : Int)), none, none]) (st' := []) (S' := su S 20 0 0 2) rfl ⟨rfl, ⟨by decide, by decide⟩⟩ ?_
                    refine es_rg (fun hg16 => ?_)
                    refine es_sg 2 (p := (0 : Int) = 0) (pc' := 95) (ls' := [some (aR 20 (0 : Int)), some (aI m), some (aI w), some (aI rows), some (aL dx), none, some (aL dy), none, some (aI (0 : Int)), none, none]) (st' := [aI (2 : Int)]) (S' := su S 20 0 0 2) rfl rfl ?_
                    refine es_if rfl 100 rfl ⟨by omega, by omega⟩ (fun (g95 : (2 : Int) = (0 : Int)) => absurd g95 (by decide)) (fun (g95 : ¬ ((2 : Int) = (0 : Int))) => ?_)
                    refine es_s0 1 (pc' := 99) (ls' := [some (aR 20 (0 : Int)), some (aI m), some (aI w), some (aI rows), some (aL dx), none, some (aL dy), none, some (aI (0 : Int)), none, none]) (st' := [aI (0 : Int)]) (S' := su S 20 0 0 2) rfl ?_
                    refine es_iret rfl rfl rfl (Or.inl rfl) ?_
                    first | exact t2 (by omega) | (exfalso; omega)
                  · show Es G 117 71 [some (aR 20 (0 : Int)), some (aI m), some (aI w), some (aI rows), some (aL dx), none, some (aL dy), none, some (aI (0 : Int)), none, none] [aI (0 : Int), aR 20 (0 : Int)] S _ _
                    refine es_if rfl 78 rfl ⟨by decide, by decide⟩ (fun (g71 : ¬ (0 : Int) = (0 : Int)) => absurd g71 (by decide)) (fun (g71 : ¬ (¬ (0 : Int) = (0 : Int))) => ?_)
                    refine es_sg 3 (p := ((0 : Int) = 0) ∧ (r32 (1 : Int))) (pc' := 91) (ls' := [some (aR 20 (0 : Int)), some (aI m), some (aI w), some (aI rows), some (aL dx), none, some (aL dy), none, some (aI (0 : Int)), none, none]) (st' := []) (S' := su S 20 0 0 1) rfl ⟨rfl, ⟨by decide, by decide⟩⟩ ?_
                    refine es_rg (fun hg17 => ?_)
                    refine es_sg 2 (p := (0 : Int) = 0) (pc' := 95) (ls' := [some (aR 20 (0 : Int)), some (aI m), some (aI w), some (aI rows), some (aL dx), none, some (aL dy), none, some (aI (0 : Int)), none, none]) (st' := [aI (1 : Int)]) (S' := su S 20 0 0 1) rfl rfl ?_
                    refine es_if rfl 100 rfl ⟨by omega, by omega⟩ (fun (g95 : (1 : Int) = (0 : Int)) => absurd g95 (by decide)) (fun (g95 : ¬ ((1 : Int) = (0 : Int))) => ?_)
                    refine es_s0 1 (pc' := 99) (ls' := [some (aR 20 (0 : Int)), some (aI m), some (aI w), some (aI rows), some (aL dx), none, some (aL dy), none, some (aI (0 : Int)), none, none]) (st' := [aI (0 : Int)]) (S' := su S 20 0 0 1) rfl ?_
                    refine es_iret rfl rfl rfl (Or.inl rfl) ?_
                    first | exact t1 (by omega) | (exfalso; omega)
                · refine es_s0 6 (pc' := 68) (ls' := [some (aR 20 (0 : Int)), some (aI m), some (aI w), some (aI rows), some (aL dx), none, some (aL dy), none, some (aI (1 : Int)), none, none]) (st' := [aI m, aR 20 (0 : Int), aR 20 (0 : Int)]) (S' := S) rfl ?_
                  refine es_callV rfl rfl 20 (0 : Int) [aI m] [aR 20 (0 : Int)] rfl rfl rfl rfl (Nat.le_of_ble_eq_true rfl) (Nat.le_of_ble_eq_true rfl) (Nat.le_of_ble_eq_true rfl) ?_
                  refine n39 (S := S) (n := m) (by assumption) (fun hc68 => ?_) (fun hc68 => ?_)
                  · show Es G 117 71 [some (aR 20 (0 : Int)), some (aI m), some (aI w), some (aI rows), some (aL dx), none, some (aL dy), none, some (aI (1 : Int)), none, none] [aI (1 : Int), aR 20 (0 : Int)] S _ _
                    refine es_if rfl 78 rfl ⟨by decide, by decide⟩ (fun (g71 : ¬ (1 : Int) = (0 : Int)) => ?_) (fun (g71 : ¬ (¬ (1 : Int) = (0 : Int))) => absurd g71 (by decide))
                    refine es_s0 1 (pc' := 80) (ls' := [some (aR 20 (0 : Int)), some (aI m), some (aI w), some (aI rows), some (aL dx), none, some (aL dy), none, some (aI (1 : Int)), none, none]) (st' := [aI (1 : Int), aR 20 (0 : Int)]) (S' := S) rfl ?_
                    refine es_if rfl 87 rfl ⟨by decide, by decide⟩ (fun (g80 : (1 : Int) = (0 : Int)) => absurd g80 (by decide)) (fun (g80 : ¬ ((1 : Int) = (0 : Int))) => ?_)
                    refine es_sg 3 (p := ((0 : Int) = 0) ∧ (r32 (0 : Int))) (pc' := 91) (ls' := [some (aR 20 (0 : Int)), some (aI m), some (aI w), some (aI rows), some (aL dx), none, some (aL dy), none, some (aI (1 : Int)), none, none]) (st' := []) (S' := su S 20 0 0 0) rfl ⟨rfl, ⟨by decide, by decide⟩⟩ ?_
                    refine es_rg (fun hg18 => ?_)
                    refine es_sg 2 (p := (0 : Int) = 0) (pc' := 95) (ls' := [some (aR 20 (0 : Int)), some (aI m), some (aI w), some (aI rows), some (aL dx), none, some (aL dy), none, some (aI (1 : Int)), none, none]) (st' := [aI (0 : Int)]) (S' := su S 20 0 0 0) rfl rfl ?_
                    refine es_if rfl 100 rfl ⟨by omega, by omega⟩ (fun (g95 : (0 : Int) = (0 : Int)) => ?_) (fun (g95 : ¬ ((0 : Int) = (0 : Int))) => absurd g95 (by decide))
                    have hcc := (hR.2.2.2.1 m (by omega) (by omega)).1
                    have hsz := hA.size (c := m) (by omega)
                    have hwr1 : 1 ≤ w * rows := Int.mul_pos (by omega) (by omega)
                    have hwr2 : w * rows ≤ 10 * 10 := Int.mul_le_mul (by omega) (by omega) (by omega) (by omega)
                    have hmm1 : 0 ≤ (w * rows - 1) * A 2 m 5 := Int.mul_nonneg (by omega) hsz.1
                    have hmm2 : (w * rows - 1) * A 2 m 5 ≤ 99 * 20 := Int.mul_le_mul (by omega) hsz.2 hsz.1 (by omega)
                    refine es_s0 6 (pc' := 107) (ls' := [some (aR 20 (0 : Int)), some (aI m), some (aI w), some (aI rows), some (aL dx), none, some (aL dy), none, some (aI (1 : Int)), some (aI ((w * rows) - 1)), none]) (st' := []) (S' := su S 20 0 0 0) rfl ?_
                    refine es_sg 5 (p := ((0 : Int) = 0) ∧ (((0 : Int) = 0) ∧ (0 ≤ m ∧ m < 20))) (pc' := 114) (ls' := [some (aR 20 (0 : Int)), some (aI m), some (aI w), some (aI rows), some (aL dx), none, some (aL dy), none, some (aI (1 : Int)), some (aI ((w * rows) - 1)), none]) (st' := [aI (-1 : Int), aI (S 31 0 m)]) (S' := su S 20 0 0 0) rfl ⟨rfl, ⟨rfl, (by omega)⟩⟩ ?_
                    refine es_icmp rfl 147 rfl (rgI hg1 (t := 31) (i := (0 : Int)) (q := m) (by omega : 0 ≤ (0 : Int) ∧ (0 : Int) < 1) (by omega) rfl) ⟨by decide, by decide⟩ (fun (g114 : ¬ (S 31 0 m) = (-1 : Int)) => ?_) (fun (g114 : ¬ (¬ (S 31 0 m) = (-1 : Int))) => ?_)
                    · refine es_s0 1 (pc' := 148) (ls' := [some (aR 20 (0 : Int)), some (aI m), some (aI w), some (aI rows), some (aL dx), none, some (aL dy), none, some (aI (1 : Int)), some (aI ((w * rows) - 1)), none]) (st' := [aI (-1 : Int)]) (S' := su S 20 0 0 0) rfl ?_
                      refine es_iret rfl rfl rfl (Or.inl rfl) ?_
                      first | exact h1 ⟨by omega, by omega⟩ | (exfalso; omega)
                    · refine es_sg 5 (p := (0 : Int) = 0) (pc' := 126) (ls' := [some (aR 20 (0 : Int)), some (aI m), some (aI w), some (aI rows), some (aL dx), none, some (aL dy), none, some (aI (1 : Int)), some (aI ((w * rows) - 1)), none]) (st' := [aI (20 : Int), aI ((S 20 0 10) + ((w * rows) - 1))]) (S' := su S 20 0 0 0) rfl rfl ?_
                      refine es_icmp rfl 147 rfl ⟨by omega, by omega⟩ ⟨by decide, by decide⟩ (fun (g126 : (20 : Int) < ((S 20 0 10) + ((w * rows) - 1))) => ?_) (fun (g126 : ¬ ((20 : Int) < ((S 20 0 10) + ((w * rows) - 1)))) => ?_)
                      · refine es_s0 1 (pc' := 148) (ls' := [some (aR 20 (0 : Int)), some (aI m), some (aI w), some (aI rows), some (aL dx), none, some (aL dy), none, some (aI (1 : Int)), some (aI ((w * rows) - 1)), none]) (st' := [aI (-1 : Int)]) (S' := su S 20 0 0 0) rfl ?_
                        refine es_iret rfl rfl rfl (Or.inl rfl) ?_
                        first | exact h1 ⟨by omega, by omega⟩ | (exfalso; omega)
                      · refine es_sg 5 (p := (0 : Int) = 0) (pc' := 137) (ls' := [some (aR 20 (0 : Int)), some (aI m), some (aI w), some (aI rows), some (aL dx), none, some (aL dy), none, some (aI (1 : Int)), some (aI ((w * rows) - 1)), none]) (st' := [aI m, aR 20 (0 : Int), aI ((w * rows) - 1), aI (S 20 0 1)]) (S' := su S 20 0 0 0) rfl rfl ?_
                        refine es_callV rfl rfl 20 (0 : Int) [aI m] [aI ((w * rows) - 1), aI (S 20 0 1)] rfl rfl rfl rfl (Nat.le_of_ble_eq_true rfl) (Nat.le_of_ble_eq_true rfl) (Nat.le_of_ble_eq_true rfl) ?_
                        refine n56 (S := su S 20 0 0 0) (A := A) hA hR.thr (c := m) (by omega) ?_
                        show Es G 117 140 [some (aR 20 (0 : Int)), some (aI m), some (aI w), some (aI rows), some (aL dx), none, some (aL dy), none, some (aI (1 : Int)), some (aI ((w * rows) - 1)), none] [aI (A 2 m 5), aI ((w * rows) - 1), aI (S 20 0 1)] (su S 20 0 0 0) _ _
                        refine es_s0 3 (pc' := 144) (ls' := [some (aR 20 (0 : Int)), some (aI m), some (aI w), some (aI rows), some (aL dx), none, some (aL dy), none, some (aI (1 : Int)), some (aI ((w * rows) - 1)), none]) (st' := [aI (60 : Int), aI ((S 20 0 1) + (((w * rows) - 1) * (A 2 m 5)))]) (S' := su S 20 0 0 0) rfl ?_
                        refine es_icmp rfl 149 rfl ⟨by omega, by omega⟩ ⟨by decide, by decide⟩ (fun (g144 : ((S 20 0 1) + (((w * rows) - 1) * (A 2 m 5))) ≤ (60 : Int)) => ?_) (fun (g144 : ¬ (((S 20 0 1) + (((w * rows) - 1) * (A 2 m 5))) ≤ (60 : Int))) => ?_)
                        · refine es_s0 2 (pc' := 152) (ls' := [some (aR 20 (0 : Int)), some (aI m), some (aI w), some (aI rows), some (aL dx), none, some (aL dy), none, some (aI (1 : Int)), some (aI ((w * rows) - 1)), some (aI (1 : Int))]) (st' := []) (S' := su S 20 0 0 0) rfl ?_
                          have e1' : arF (w * rows).toNat A m w dx dy 0 = arF (w * rows - 1).toNat A m w dx dy 1 := by
                            rw [show (w * rows).toNat = (w * rows - 1).toNat + 1 from by omega]
                            conv => lhs; unfold arF
                            rw [if_pos rfl]
                            rfl
                          exact n117_l (by omega) (by omega) (by omega) (by omega) rfl (by omega) (w * rows - 1).toNat A _ 1 hA hR.thr ⟨by omega, by omega⟩ (by omega) (by rw [show (((w * rows - 1).toNat : Nat) : Int) = w * rows - 1 from by omega]; omega) (by omega) (by omega) (fun S' q1 q2 => h0 ⟨by omega, by omega⟩ S' (by rw [e1']; exact q1) q2.thr.1 q2.thr.2)
                        · refine es_s0 1 (pc' := 148) (ls' := [some (aR 20 (0 : Int)), some (aI m), some (aI w), some (aI rows), some (aL dx), none, some (aL dy), none, some (aI (1 : Int)), some (aI ((w * rows) - 1)), none]) (st' := [aI (-1 : Int)]) (S' := su S 20 0 0 0) rfl ?_
                          refine es_iret rfl rfl rfl (Or.inl rfl) ?_
                          first | exact h1 ⟨by omega, by omega⟩ | (exfalso; omega)
                  · show Es G 117 71 [some (aR 20 (0 : Int)), some (aI m), some (aI w), some (aI rows), some (aL dx), none, some (aL dy), none, some (aI (1 : Int)), none, none] [aI (0 : Int), aR 20 (0 : Int)] S _ _
                    refine es_if rfl 78 rfl ⟨by decide, by decide⟩ (fun (g71 : ¬ (0 : Int) = (0 : Int)) => absurd g71 (by decide)) (fun (g71 : ¬ (¬ (0 : Int) = (0 : Int))) => ?_)
                    refine es_sg 3 (p := ((0 : Int) = 0) ∧ (r32 (1 : Int))) (pc' := 91) (ls' := [some (aR 20 (0 : Int)), some (aI m), some (aI w), some (aI rows), some (aL dx), none, some (aL dy), none, some (aI (1 : Int)), none, none]) (st' := []) (S' := su S 20 0 0 1) rfl ⟨rfl, ⟨by decide, by decide⟩⟩ ?_
                    refine es_rg (fun hg19 => ?_)
                    refine es_sg 2 (p := (0 : Int) = 0) (pc' := 95) (ls' := [some (aR 20 (0 : Int)), some (aI m), some (aI w), some (aI rows), some (aL dx), none, some (aL dy), none, some (aI (1 : Int)), none, none]) (st' := [aI (1 : Int)]) (S' := su S 20 0 0 1) rfl rfl ?_
                    refine es_if rfl 100 rfl ⟨by omega, by omega⟩ (fun (g95 : (1 : Int) = (0 : Int)) => absurd g95 (by decide)) (fun (g95 : ¬ ((1 : Int) = (0 : Int))) => ?_)
                    refine es_s0 1 (pc' := 99) (ls' := [some (aR 20 (0 : Int)), some (aI m), some (aI w), some (aI rows), some (aL dx), none, some (aL dy), none, some (aI (1 : Int)), none, none]) (st' := [aI (0 : Int)]) (S' := su S 20 0 0 1) rfl ?_
                    refine es_iret rfl rfl rfl (Or.inl rfl) ?_
                    first | exact t1 (by omega) | (exfalso; omega)
theorem n59' {G : Gw} {S : Sg} {k : Nat} {Q : AQ} {A : Sg} (hA : CI A) (hR : RR A S) {c o X Y T : Int} (hc : 0 ≤ c ∧ c < A 0 0 6) (ho : 0 ≤ o ∧ o < 60) (hn : near A o) (e1 : pX A c o = X) (e2 : pY A c o = Y) (e3 : pT A c o = T) (h : Q (.inl none) (gRk S X Y T)) : Es G 59 0 (aEnt 15 [aR 20 0, aI c, aI o]) [] S (k + 1) Q := by
  subst e1
  subst e2
  subst e3
  exact n59 hA hR hc ho hn h
theorem n120_l {G : Gw} {k : Nat} {Q : AQ} {B : Sg} {c : Int} (hB : CI B) (hc : 0 ≤ c ∧ c < B 0 0 6) (hcp : ¬ B 2 c 0 = -1) {Sz : Sg} (h : ∀ S' : Sg, RR (miF B c 20) S' → Fc Sz S' → Q (.inl (some (aI 1))) S') : ∀ (n : Nat) (S : Sg) (p : Int) (_ : CI (miG B c p)) (_ : RR (miG B c p) S) (_ : Fc Sz S) (_ : 0 ≤ p) (_ : p + n = B 0 0 5), Es G 120 58 [some (aR 20 (0 : Int)), some (aI c), some (aI p)] [] S (k + 2) Q := by
  intro n
  induction n using Nat.strongRecOn with
  | _ n ih =>
    intro S p hA hR hF hp hn
    have n1 := hB.1.1
    have n2 := hB.1.2.1
    have e1 : S 20 0 1 = B 0 0 5 := hR.1.1
    have k31 : S 31 0 c = B 2 c 0 := (hR.2.2.2.1 c hc.1 hc.2).1
    refine es_rg (fun hg1 => ?_)
    refine es_sg 3 (p := (0 : Int) = 0) (pc' := 63) (ls' := [some (aR 20 (0 : Int)), some (aI c), some (aI p)]) (st' := [aI (S 20 0 1), aI p]) (S' := S) rfl rfl ?_
    refine es_icmp rfl 133 rfl ⟨by omega, by omega⟩ (rgI hg1 (t := 20) (i := (0 : Int)) (q := (1 : Int)) (by omega : 0 ≤ (0 : Int) ∧ (0 : Int) < 1) (by omega) rfl) (fun (g63 : (S 20 0 1) ≤ p) => ?_) (fun (g63 : ¬ ((S 20 0 1) ≤ p)) => ?_)
    · refine es_s0 1 (pc' := 134) (ls' := [some (aR 20 (0 : Int)), some (aI c), some (aI p)]) (st' := [aI (1 : Int)]) (S' := S) rfl ?_
      refine es_iret rfl rfl rfl (Or.inr ⟨rfl, (by decide)⟩) ?_
      have e : p = B 0 0 5 := by omega
      subst e
      rw [miG_end hB hc.1] at hR
      exact h S hR hF
    · have k27 : S 27 0 p = B 1 p 5 := (hR.2.2.1 p hp (show p < B 0 0 5 from by omega)).1
      have k28 : S 28 0 p = B 1 p 6 := (hR.2.2.1 p hp (show p < B 0 0 5 from by omega)).2
      have k29 : S 29 0 p = B 1 p 7 := (hR.2.1 p hp (by omega)).2.2.2.2.2
      refine es_sg 5 (p := ((0 : Int) = 0) ∧ (((0 : Int) = 0) ∧ (0 ≤ p ∧ p < 60))) (pc' := 73) (ls' := [some (aR 20 (0 : Int)), some (aI c), some (aI p)]) (st' := [aI c, aI (S 27 0 p)]) (S' := S) rfl ⟨rfl, ⟨rfl, (by omega)⟩⟩ ?_
      refine es_icmp rfl 127 rfl (rgI hg1 (t := 27) (i := (0 : Int)) (q := p) (by omega : 0 ≤ (0 : Int) ∧ (0 : Int) < 1) (by omega) rfl) ⟨by omega, by omega⟩ (fun (g73 : ¬ (S 27 0 p) = c) => ?_) (fun (g73 : ¬ (¬ (S 27 0 p) = c)) => ?_)
      · refine es_s0 2 (pc' := 58) (ls' := [some (aR 20 (0 : Int)), some (aI c), some (aI (p + 1))]) (st' := []) (S' := S) rfl ?_
        have hsk : miG B c (p + 1) = miG B c p := miG_skip (by omega)
        rw [← hsk] at hA hR
        exact ih (n - 1) (by omega) S (p + 1) hA hR hF (by omega) (by omega)
      · refine es_sg 4 (p := ((0 : Int) = 0) ∧ (((0 : Int) = 0) ∧ (0 ≤ p ∧ p < 60))) (pc' := 82) (ls' := [some (aR 20 (0 : Int)), some (aI c), some (aI p)]) (st' := [aI (S 29 0 p)]) (S' := S) rfl ⟨rfl, ⟨rfl, (by omega)⟩⟩ ?_
        refine es_if rfl 88 rfl (r32_z (rgZ hg1 (t := 29) (i := (0 : Int)) (q := p) (by omega : 0 ≤ (0 : Int) ∧ (0 : Int) < 1) (by omega) rfl)) (fun (g82 : (S 29 0 p) = (0 : Int)) => ?_) (fun (g82 : ¬ ((S 29 0 p) = (0 : Int))) => ?_)
        · obtain ⟨w1, w2, w3, w4, w5, w6⟩ := mi_orig hB hc hcp (p := p) (by omega) (by omega)
          have hpose := miG_pose (p := p) w6
          have hpb := pose_b (c := c) (hB.2.2.1 c hc.1 (by omega)).1 w4 w5
          have hnear' : near (miG B c p) (B 3 (B 2 c 0) (B 1 p 6)) := by unfold near at w5 ⊢; rw [miG_off w6, miG_off w6]; exact w5
          refine es_sg 6 (p := (0 : Int) = 0) (pc' := 96) (ls' := [some (aR 20 (0 : Int)), some (aI c), some (aI p)]) (st' := [aI c, aR 31 (0 : Int), aR 20 (0 : Int), aI c, aR 20 (0 : Int)]) (S' := S) rfl rfl ?_
          refine es_sg 5 (p := (((0 : Int) = 0) ∧ (0 ≤ c ∧ c < 20)) ∧ (((0 : Int) = 0) ∧ (((0 : Int) = 0) ∧ (0 ≤ p ∧ p < 60)))) (pc' := 103) (ls' := [some (aR 20 (0 : Int)), some (aI c), some (aI p)]) (st' := [aI (S 28 0 p), aI (S 31 0 c), aR 20 (0 : Int), aI c, aR 20 (0 : Int)]) (S' := S) rfl ⟨⟨rfl, (by omega)⟩, rfl, ⟨rfl, (by omega)⟩⟩ ?_
          refine es_callV rfl rfl 20 (0 : Int) [aI (S 31 0 c), aI (S 28 0 p)] [aI c, aR 20 (0 : Int)] rfl rfl rfl rfl (Nat.le_of_ble_eq_true rfl) (Nat.le_of_ble_eq_true rfl) (Nat.le_of_ble_eq_true rfl) ?_
          refine n40 (S := S) (A := miG B c p) hA hR (c := (S 31 0 c)) (r := (S 28 0 p)) (by omega) (by omega) ?_
          have eo : miG B c p 3 (S 31 0 c) (S 28 0 p) = B 3 (B 2 c 0) (B 1 p 6) := by rw [k31, k28]; rfl
          rw [eo]
          show Es G 120 106 [some (aR 20 (0 : Int)), some (aI c), some (aI p)] [aI (B 3 (B 2 c 0) (B 1 p 6)), aI c, aR 20 (0 : Int)] S _ _
          refine es_callV rfl rfl 20 (0 : Int) [aI c, aI (B 3 (B 2 c 0) (B 1 p 6))] [] rfl rfl rfl rfl (Nat.le_of_ble_eq_true rfl) (Nat.le_of_ble_eq_true rfl) (Nat.le_of_ble_eq_true rfl) ?_
          refine n59' (S := S) (A := miG B c p) hA hR (c := c) (o := (B 3 (B 2 c 0) (B 1 p 6))) hc (by omega) hnear' hpose.1 hpose.2.1 hpose.2.2 ?_
          show Es G 120 109 [some (aR 20 (0 : Int)), some (aI c), some (aI p)] [] (su (su (su S 20 0 23 (pX B c (B 3 (B 2 c 0) (B 1 p 6)))) 20 0 24 (pY B c (B 3 (B 2 c 0) (B 1 p 6)))) 20 0 25 (pT B c (B 3 (B 2 c 0) (B 1 p 6)))) _ _
          refine es_rg (fun hg2 => ?_)
          refine es_sg 6 (p := ((0 : Int) = 0) ∧ ((0 : Int) = 0)) (pc' := 119) (ls' := [some (aR 20 (0 : Int)), some (aI c), some (aI p)]) (st' := [aL (pY B c (B 3 (B 2 c 0) (B 1 p 6))), aL (pX B c (B 3 (B 2 c 0) (B 1 p 6))), aI p, aR 20 (0 : Int)]) (S' := su (su (su S 20 0 23 (pX B c (B 3 (B 2 c 0) (B 1 p 6)))) 20 0 24 (pY B c (B 3 (B 2 c 0) (B 1 p 6)))) 20 0 25 (pT B c (B 3 (B 2 c 0) (B 1 p 6)))) rfl ⟨rfl, rfl⟩ ?_
          refine es_sg 2 (p := (0 : Int) = 0) (pc' := 123) (ls' := [some (aR 20 (0 : Int)), some (aI c), some (aI p)]) (st' := [aI (pT B c (B 3 (B 2 c 0) (B 1 p 6))), aL (pY B c (B 3 (B 2 c 0) (B 1 p 6))), aL (pX B c (B 3 (B 2 c 0) (B 1 p 6))), aI p, aR 20 (0 : Int)]) (S' := su (su (su S 20 0 23 (pX B c (B 3 (B 2 c 0) (B 1 p 6)))) 20 0 24 (pY B c (B 3 (B 2 c 0) (B 1 p 6)))) 20 0 25 (pT B c (B 3 (B 2 c 0) (B 1 p 6)))) rfl rfl ?_
          refine es_callV rfl rfl 20 (0 : Int) [aI p, aL (pX B c (B 3 (B 2 c 0) (B 1 p 6))), aL (pY B c (B 3 (B 2 c 0) (B 1 p 6))), aI (pT B c (B 3 (B 2 c 0) (B 1 p 6)))] [] rfl rfl rfl rfl (Nat.le_of_ble_eq_true rfl) (Nat.le_of_ble_eq_true rfl) (Nat.le_of_ble_eq_true rfl) ?_
          refine n27 (S := su (su (su S 20 0 23 (pX B c (B 3 (B 2 c 0) (B 1 p 6)))) 20 0 24 (pY B c (B 3 (B 2 c 0) (B 1 p 6)))) 20 0 25 (pT B c (B 3 (B 2 c 0) (B 1 p 6)))) (i := p) (x := (pX B c (B 3 (B 2 c 0) (B 1 p 6)))) (y := (pY B c (B 3 (B 2 c 0) (B 1 p 6)))) (t := (pT B c (B 3 (B 2 c 0) (B 1 p 6)))) (by omega) ⟨by omega, by omega⟩ ⟨by omega, by omega⟩ ⟨by omega, by omega⟩ (fun hc123 => ?_) (fun hc123 => ?_)
          · show Es G 120 126 [some (aR 20 (0 : Int)), some (aI c), some (aI p)] [aI (1 : Int)] (su (su (su (su (su (su S 20 0 23 (pX B c (B 3 (B 2 c 0) (B 1 p 6)))) 20 0 24 (pY B c (B 3 (B 2 c 0) (B 1 p 6)))) 20 0 25 (pT B c (B 3 (B 2 c 0) (B 1 p 6)))) 24 0 p (pX B c (B 3 (B 2 c 0) (B 1 p 6)))) 25 0 p (pY B c (B 3 (B 2 c 0) (B 1 p 6)))) 26 0 p (pT B c (B 3 (B 2 c 0) (B 1 p 6)))) _ _
            refine es_rg (fun hg3 => ?_)
            refine es_s0 3 (pc' := 58) (ls' := [some (aR 20 (0 : Int)), some (aI c), some (aI (p + 1))]) (st' := []) (S' := su (su (su (su (su (su S 20 0 23 (pX B c (B 3 (B 2 c 0) (B 1 p 6)))) 20 0 24 (pY B c (B 3 (B 2 c 0) (B 1 p 6)))) 20 0 25 (pT B c (B 3 (B 2 c 0) (B 1 p 6)))) 24 0 p (pX B c (B 3 (B 2 c 0) (B 1 p 6)))) 25 0 p (pY B c (B 3 (B 2 c 0) (B 1 p 6)))) 26 0 p (pT B c (B 3 (B 2 c 0) (B 1 p 6)))) rfl ?_
            have hmv := miG_mv (B := B) (c := c) (p := p) (by omega) (by omega) (by omega)
            exact ih (n - 1) (by omega) _ (p + 1) (hmv ▸ hA.mv (show 0 ≤ p ∧ p < B 0 0 5 from by omega) hpb.2.2 hpb.1 hpb.2.1 (fun g => by
              replace g : B 1 p 5 = -1 ∨ B 2 (B 1 p 5) 0 = -1 := g
              rw [show B 1 p 5 = c from by omega] at g
              omega)) (hmv ▸ RR.mv (((hR.ob (by decide) (by decide) (by decide)).ob (by decide) (by decide) (by decide)).ob (by decide) (by decide) (by decide))) (hF.tr (((((((Fc.rf _).puto (by decide)).puto (by decide)).puto (by decide)).put (by decide)).put (by decide)).put (by decide))) (by omega) (by omega)
          · show Es G 120 126 [some (aR 20 (0 : Int)), some (aI c), some (aI p)] [aI (0 : Int)] (su (su (su (su (su (su S 20 0 23 (pX B c (B 3 (B 2 c 0) (B 1 p 6)))) 20 0 24 (pY B c (B 3 (B 2 c 0) (B 1 p 6)))) 20 0 25 (pT B c (B 3 (B 2 c 0) (B 1 p 6)))) 24 0 p (pX B c (B 3 (B 2 c 0) (B 1 p 6)))) 25 0 p (pY B c (B 3 (B 2 c 0) (B 1 p 6)))) 26 0 p (pT B c (B 3 (B 2 c 0) (B 1 p 6)))) _ _
            refine es_rg (fun hg4 => ?_)
            refine es_s0 3 (pc' := 58) (ls' := [some (aR 20 (0 : Int)), some (aI c), some (aI (p + 1))]) (st' := []) (S' := su (su (su (su (su (su S 20 0 23 (pX B c (B 3 (B 2 c 0) (B 1 p 6)))) 20 0 24 (pY B c (B 3 (B 2 c 0) (B 1 p 6)))) 20 0 25 (pT B c (B 3 (B 2 c 0) (B 1 p 6)))) 24 0 p (pX B c (B 3 (B 2 c 0) (B 1 p 6)))) 25 0 p (pY B c (B 3 (B 2 c 0) (B 1 p 6)))) 26 0 p (pT B c (B 3 (B 2 c 0) (B 1 p 6)))) rfl ?_
            have hmv := miG_mv (B := B) (c := c) (p := p) (by omega) (by omega) (by omega)
            exact ih (n - 1) (by omega) _ (p + 1) (hmv ▸ hA.mv (show 0 ≤ p ∧ p < B 0 0 5 from by omega) hpb.2.2 hpb.1 hpb.2.1 (fun g => by
              replace g : B 1 p 5 = -1 ∨ B 2 (B 1 p 5) 0 = -1 := g
              rw [show B 1 p 5 = c from by omega] at g
              omega)) (hmv ▸ RR.mv (((hR.ob (by decide) (by decide) (by decide)).ob (by decide) (by decide) (by decide)).ob (by decide) (by decide) (by decide))) (hF.tr (((((((Fc.rf _).puto (by decide)).puto (by decide)).puto (by decide)).put (by decide)).put (by decide)).put (by decide))) (by omega) (by omega)
        · refine es_s0 3 (pc' := 58) (ls' := [some (aR 20 (0 : Int)), some (aI c), some (aI (p + 1))]) (st' := []) (S' := S) rfl ?_
          have hsk : miG B c (p + 1) = miG B c p := miG_skip (by omega)
          rw [← hsk] at hA hR
          exact ih (n - 1) (by omega) S (p + 1) hA hR hF (by omega) (by omega)
theorem n120 {G : Gw} {S : Sg} {k : Nat} {Q : AQ} {A : Sg} (hA : CI A) (hR : RR A S) {c : Int} (hc : r32 c) (t1 : ¬ (0 ≤ c ∧ c < A 0 0 6) → Q (.inl (some (aI 0))) (su S 20 0 0 1)) (h1 : (0 ≤ c ∧ c < A 0 0 6) ∧ A 2 c 0 = -1 → Q (.inl (some (aI 0))) (su S 20 0 0 0)) (h0 : (0 ≤ c ∧ c < A 0 0 6) ∧ ¬ A 2 c 0 = -1 → ∀ S' : Sg, RR (miF (flip A c) c 20) S' → Fx S S' → S' 20 0 0 = 0 → Q (.inl (some (aI 1))) S') : Es G 120 0 (aEnt 3 [aR 20 (0 : Int), aI c]) [] S (k + 2) Q := by
  have n1 := hA.1.1
  have n2 := hA.1.2.1
  have n3 := hA.1.2.2
  have e1 : S 20 0 1 = A 0 0 5 := hR.1.1
  have e10 : S 20 0 10 = A 0 0 6 := hR.1.2.1
  have e17 : S 20 0 17 = A 0 0 7 := hR.1.2.2
  refine es_rg (fun hgz => ?_)
  have hz : 0 ≤ c ∧ c < 20 → S 35 0 c = 0 ∨ S 35 0 c = 1 := fun q => rgZ hgz (t := 35) (i := 0) (q := c) (by omega : (0 : Int) ≤ 0 ∧ (0 : Int) < 1) (by omega) rfl
  refine es_rg (fun hg1 => ?_)
  refine es_s0 3 (pc' := 3) (ls' := [some (aR 20 (0 : Int)), some (aI c), none]) (st' := [aI c, aR 20 (0 : Int), aR 20 (0 : Int)]) (S' := S) rfl ?_
  refine es_callV rfl rfl 20 (0 : Int) [aI c] [aR 20 (0 : Int)] rfl rfl rfl rfl (Nat.le_of_ble_eq_true rfl) (Nat.le_of_ble_eq_true rfl) (Nat.le_of_ble_eq_true rfl) ?_
  refine n39 (S := S) (n := c) (by assumption) (fun hc3 => ?_) (fun hc3 => ?_)
  · show Es G 120 6 [some (aR 20 (0 : Int)), some (aI c), none] [aI (1 : Int), aR 20 (0 : Int)] S _ _
    refine es_if rfl 13 rfl ⟨by decide, by decide⟩ (fun (g6 : (1 : Int) = (0 : Int)) => absurd g6 (by decide)) (fun (g6 : ¬ ((1 : Int) = (0 : Int))) => ?_)
    refine es_sg 3 (p := ((0 : Int) = 0) ∧ (r32 (0 : Int))) (pc' := 17) (ls' := [some (aR 20 (0 : Int)), some (aI c), none]) (st' := []) (S' := su S 20 0 0 0) rfl ⟨rfl, ⟨by decide, by decide⟩⟩ ?_
    refine es_rg (fun hg2 => ?_)
    refine es_sg 2 (p := (0 : Int) = 0) (pc' := 21) (ls' := [some (aR 20 (0 : Int)), some (aI c), none]) (st' := [aI (0 : Int)]) (S' := su S 20 0 0 0) rfl rfl ?_
    refine es_if rfl 34 rfl ⟨by omega, by omega⟩ (fun (g21 : ¬ (0 : Int) = (0 : Int)) => absurd g21 (by decide)) (fun (g21 : ¬ (¬ (0 : Int) = (0 : Int))) => ?_)
    obtain ⟨kc, _, _, _, kf⟩ := hR.2.2.2.1 c (by omega) (by omega)
    refine es_sg 5 (p := ((0 : Int) = 0) ∧ (((0 : Int) = 0) ∧ (0 ≤ c ∧ c < 20))) (pc' := 31) (ls' := [some (aR 20 (0 : Int)), some (aI c), none]) (st' := [aI (-1 : Int), aI (S 31 0 c)]) (S' := su S 20 0 0 0) rfl ⟨rfl, ⟨rfl, (by omega)⟩⟩ ?_
    refine es_icmp rfl 36 rfl (rgI hg1 (t := 31) (i := (0 : Int)) (q := c) (by omega : 0 ≤ (0 : Int) ∧ (0 : Int) < 1) (by omega) rfl) ⟨by decide, by decide⟩ (fun (g31 : ¬ (S 31 0 c) = (-1 : Int)) => ?_) (fun (g31 : ¬ (¬ (S 31 0 c) = (-1 : Int))) => ?_)
    · refine es_sg 6 (p := ((0 : Int) = 0) ∧ ((0 : Int) = 0)) (pc' := 46) (ls' := [some (aR 20 (0 : Int)), some (aI c), none]) (st' := [aI c, aR 35 (0 : Int), aI c, aR 35 (0 : Int)]) (S' := su S 20 0 0 0) rfl ⟨rfl, rfl⟩ ?_
      refine es_sg 1 (p := ((0 : Int) = 0) ∧ (0 ≤ c ∧ c < 20)) (pc' := 47) (ls' := [some (aR 20 (0 : Int)), some (aI c), none]) (st' := [aI (S 35 0 c), aI c, aR 35 (0 : Int)]) (S' := su S 20 0 0 0) rfl ⟨rfl, (by omega)⟩ ?_
      refine es_if rfl 54 rfl (r32_z (rgZ hg1 (t := 35) (i := (0 : Int)) (q := c) (by omega : 0 ≤ (0 : Int) ∧ (0 : Int) < 1) (by omega) rfl)) (fun (g47 : ¬ (S 35 0 c) = (0 : Int)) => ?_) (fun (g47 : ¬ (¬ (S 35 0 c) = (0 : Int))) => ?_)
      · refine es_sg 2 (p := (((0 : Int) = 0) ∧ (0 ≤ c ∧ c < 20)) ∧ ((0 : Int) = 0 ∨ (0 : Int) = 1)) (pc' := 56) (ls' := [some (aR 20 (0 : Int)), some (aI c), none]) (st' := []) (S' := su (su S 20 0 0 0) 35 0 c 0) rfl ⟨⟨rfl, (by omega)⟩, (by decide)⟩ ?_
        refine es_rg (fun hg3 => ?_)
        refine es_s0 2 (pc' := 58) (ls' := [some (aR 20 (0 : Int)), some (aI c), some (aI (0 : Int))]) (st' := []) (S' := su (su S 20 0 0 0) 35 0 c 0) rfl ?_
        have hf : 1 - A 2 c 4 = 0 := by omega
        have hz2 : A 2 c 4 = 0 ∨ A 2 c 4 = 1 := by omega
        have hB : CI (flip A c) := hA.flip hz2 (by omega)
        have hRf : RR (flip A c) (su (su S 20 0 0 0) 35 0 c 0) := by unfold flip; rw [hf]; exact (hR.thr).flip
        exact n120_l hB (show 0 ≤ c ∧ c < A 0 0 6 from by omega) (show ¬ A 2 c 0 = -1 from by omega) (Sz := su S 20 0 0 0) (fun S' j1 j2 => h0 (by omega) S' j1 j2.thr.1 j2.thr.2) (A 0 0 5).toNat _ 0 (by rw [miG_z]; exact hB) (by rw [miG_z]; exact hRf) ((Fc.rf _).put (by decide)) (by omega) (show 0 + (((A 0 0 5).toNat : Nat) : Int) = A 0 0 5 from by omega)
      · refine es_sg 3 (p := (((0 : Int) = 0) ∧ (0 ≤ c ∧ c < 20)) ∧ ((1 : Int) = 0 ∨ (1 : Int) = 1)) (pc' := 56) (ls' := [some (aR 20 (0 : Int)), some (aI c), none]) (st' := []) (S' := su (su S 20 0 0 0) 35 0 c 1) rfl ⟨⟨rfl, (by omega)⟩, (by decide)⟩ ?_
        refine es_rg (fun hg4 => ?_)
        refine es_s0 2 (pc' := 58) (ls' := [some (aR 20 (0 : Int)), some (aI c), some (aI (0 : Int))]) (st' := []) (S' := su (su S 20 0 0 0) 35 0 c 1) rfl ?_
        have hf : 1 - A 2 c 4 = 1 := by omega
        have hz2 : A 2 c 4 = 0 ∨ A 2 c 4 = 1 := by omega
        have hB : CI (flip A c) := hA.flip hz2 (by omega)
        have hRf : RR (flip A c) (su (su S 20 0 0 0) 35 0 c 1) := by unfold flip; rw [hf]; exact (hR.thr).flip
        exact n120_l hB (show 0 ≤ c ∧ c < A 0 0 6 from by omega) (show ¬ A 2 c 0 = -1 from by omega) (Sz := su S 20 0 0 0) (fun S' j1 j2 => h0 (by omega) S' j1 j2.thr.1 j2.thr.2) (A 0 0 5).toNat _ 0 (by rw [miG_z]; exact hB) (by rw [miG_z]; exact hRf) ((Fc.rf _).put (by decide)) (by omega) (show 0 + (((A 0 0 5).toNat : Nat) : Int) = A 0 0 5 from by omega)
    · refine es_s0 1 (pc' := 35) (ls' := [some (aR 20 (0 : Int)), some (aI c), none]) (st' := [aI (0 : Int)]) (S' := su S 20 0 0 0) rfl ?_
      refine es_iret rfl rfl rfl (Or.inr ⟨rfl, (by decide)⟩) ?_
      exact h1 (by omega)
  · show Es G 120 6 [some (aR 20 (0 : Int)), some (aI c), none] [aI (0 : Int), aR 20 (0 : Int)] S _ _
    refine es_if rfl 13 rfl ⟨by decide, by decide⟩ (fun (g6 : (0 : Int) = (0 : Int)) => ?_) (fun (g6 : ¬ ((0 : Int) = (0 : Int))) => absurd g6 (by decide))
    refine es_sg 2 (p := ((0 : Int) = 0) ∧ (r32 (1 : Int))) (pc' := 17) (ls' := [some (aR 20 (0 : Int)), some (aI c), none]) (st' := []) (S' := su S 20 0 0 1) rfl ⟨rfl, ⟨by decide, by decide⟩⟩ ?_
    refine es_rg (fun hg5 => ?_)
    refine es_sg 2 (p := (0 : Int) = 0) (pc' := 21) (ls' := [some (aR 20 (0 : Int)), some (aI c), none]) (st' := [aI (1 : Int)]) (S' := su S 20 0 0 1) rfl rfl ?_
    refine es_if rfl 34 rfl ⟨by omega, by omega⟩ (fun (g21 : ¬ (1 : Int) = (0 : Int)) => ?_) (fun (g21 : ¬ (¬ (1 : Int) = (0 : Int))) => absurd g21 (by decide))
    refine es_s0 1 (pc' := 35) (ls' := [some (aR 20 (0 : Int)), some (aI c), none]) (st' := [aI (0 : Int)]) (S' := su S 20 0 0 1) rfl ?_
    refine es_iret rfl rfl rfl (Or.inr ⟨rfl, (by decide)⟩) ?_
    exact t1 (by omega)
