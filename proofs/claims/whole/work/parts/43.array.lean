/-! THE CLASS: arrays -/
theorem mul_b {i d : Int} (hi : 0 ≤ i ∧ i ≤ 9) (hd : -100000 ≤ d ∧ d ≤ 100000) : -1000000 ≤ i * d ∧ i * d ≤ 1000000 := by
  obtain ⟨n, rfl⟩ : ∃ n : Nat, i = n := ⟨i.toNat, by omega⟩
  match n, hi with
  | 0, _ => omega
  | 1, _ => omega
  | 2, _ => omega
  | 3, _ => omega
  | 4, _ => omega
  | 5, _ => omega
  | 6, _ => omega
  | 7, _ => omega
  | 8, _ => omega
  | 9, _ => omega
  | n + 10, h => omega
theorem row_mod {i j w e : Int} (hi : 0 ≤ i ∧ i < w) (he : e = j * w) : (e + i) % w = i ∧ (e + i) / w = j := by
  subst he
  have e1 : j * w + i = i + j * w := Int.add_comm _ _
  rw [e1, Int.add_mul_emod_self_right, Int.add_mul_ediv_right _ _ (by omega), Int.emod_eq_of_lt hi.1 hi.2, Int.ediv_eq_zero_of_lt hi.1 hi.2]
  exact ⟨rfl, by omega⟩
theorem ac_no {A : Sg} {m dx dy t : Int} (h : 20 ≤ A 0 0 6) : acF A m dx dy t = A := by
  unfold acF; rw [if_neg (by omega)]
theorem ac_m {A : Sg} {m dx dy t : Int} (hm : (0 ≤ m ∧ m < A 0 0 6) ∧ A 2 m 0 = -1) : (0 ≤ m ∧ m < acF A m dx dy t 0 0 6) ∧ acF A m dx dy t 2 m 0 = -1 := by
  by_cases h : A 0 0 6 < 20
  · obtain ⟨a1, a2, a3, a4, a5⟩ := acF_keep (A := A) (m := m) (dx := dx) (dy := dy) (t := t) h
    rw [a1, a4 m hm.1.2]
    omega
  · rw [ac_no (by omega)]
    exact hm
theorem m115_l {G : Gw} {k : Nat} {Q : AQ} {m w rows dx dy cp : Int} (hw : 1 ≤ w ∧ w ≤ 10) (hrs : 1 ≤ rows ∧ rows ≤ 10) (hx : -100000 ≤ dx ∧ dx ≤ 100000) (hy : -100000 ≤ dy ∧ dy ≤ 100000) : ∀ (N n : Nat) (B S : Sg) (j i e : Int) (_ : Lk B S) (_ : CI B) (_ : (0 ≤ m ∧ m < B 0 0 6) ∧ B 2 m 0 = -1) (_ : 0 ≤ j ∧ j < rows) (_ : 0 ≤ i ∧ i ≤ w) (_ : e = j * w) (_ : e + i + n = w * rows) (_ : (N : Int) = n + (rows - j)) (_ : ∀ S' : Sg, Lk (arF n B m w dx dy (e + i)) S' → Fr S S' → Q (.inl (some (aI cp))) S'), Es G 115 100 [some (aR 0 (0 : Int)), some (aI m), some (aI w), some (aI rows), some (aL dx), none, some (aL dy), none, some (aI cp), some (aI j), some (aI i)] [] S (k + 6) Q := by
  intro N
  induction N using Nat.strongRecOn with
  | _ N ih =>
    intro n B S j i e hB hCB hm hj hi he hk hN h
    have hn2 := hCB.1.2.1
    have e06 : S 0 0 6 = B 0 0 6 := by rw [hB 0 (by decide)]
    have hrow : (j + 1) * w = e + w := by rw [Int.add_mul, he]; omega
    have he0 : 0 ≤ e := by rw [he]; exact Int.mul_nonneg hj.1 (by omega)
    have hep : 0 < j → 0 < e := fun q => by rw [he]; exact Int.mul_pos q (by omega)
    have hj0 : j = 0 → e = 0 := fun q => by rw [he, q]; omega
    have hend : j + 1 = rows → w * rows = e + w := fun q => by rw [← q, Int.mul_comm]; exact hrow
    have hmore : i < w → ¬ w * rows ≤ e + i := fun q hq => by
      have : w * (j + 1) ≤ w * rows := Int.mul_le_mul_of_nonneg_left (by omega) (by omega)
      rw [Int.mul_comm w (j + 1), hrow] at this
      omega
    refine es_rg (fun hg1 => ?_)
    refine es_s0 2 (pc' := 103) (ls' := [some (aR 0 (0 : Int)), some (aI m), some (aI w), some (aI rows), some (aL dx), none, some (aL dy), none, some (aI cp), some (aI j), some (aI i)]) (st' := [aI w, aI i]) (S' := S) rfl ?_
    refine es_icmp rfl 141 rfl ⟨by omega, by omega⟩ ⟨by omega, by omega⟩ (fun (g103 : w ≤ i) => ?_) (fun (g103 : ¬ (w ≤ i)) => ?_)
    · refine es_s0 4 (pc' := 94) (ls' := [some (aR 0 (0 : Int)), some (aI m), some (aI w), some (aI rows), some (aL dx), none, some (aL dy), none, some (aI cp), some (aI (j + 1)), some (aI i)]) (st' := [aI rows, aI (j + 1)]) (S' := S) rfl ?_
      refine es_icmp rfl 147 rfl ⟨by omega, by omega⟩ ⟨by omega, by omega⟩ (fun (g94 : rows ≤ (j + 1)) => ?_) (fun (g94 : ¬ (rows ≤ (j + 1))) => ?_)
      · refine es_s0 1 (pc' := 149) (ls' := [some (aR 0 (0 : Int)), some (aI m), some (aI w), some (aI rows), some (aL dx), none, some (aL dy), none, some (aI cp), some (aI (j + 1)), some (aI i)]) (st' := [aI cp]) (S' := S) rfl ?_
        refine es_iret rfl rfl rfl (Or.inl rfl) ?_
        have hz := hend (by omega)
        have hz2 : n = 0 := by omega
        subst hz2
        exact h S hB (Fr.rf S)
      · refine es_s0 2 (pc' := 100) (ls' := [some (aR 0 (0 : Int)), some (aI m), some (aI w), some (aI rows), some (aL dx), none, some (aL dy), none, some (aI cp), some (aI (j + 1)), some (aI (0 : Int))]) (st' := []) (S' := S) rfl ?_
        exact ih (N - 1) (by omega) n B S (j + 1) 0 (e + w) hB hCB hm (by omega) (by omega) hrow.symm (by omega) (by omega) (by rw [show e + w + 0 = e + i from by omega]; exact h)
    · refine es_s0 1 (pc' := 108) (ls' := [some (aR 0 (0 : Int)), some (aI m), some (aI w), some (aI rows), some (aL dx), none, some (aL dy), none, some (aI cp), some (aI j), some (aI i)]) (st' := [aI i]) (S' := S) rfl ?_
      refine es_if rfl 116 rfl ⟨by omega, by omega⟩ (fun (g108 : (0 : Int) < i) => ?_) (fun (g108 : ¬ ((0 : Int) < i)) => ?_)
      · have hmod := row_mod (i := i) (j := j) (w := w) (e := e) (by omega) he
        have hbx := mul_b (i := i) (d := dx) (by omega) hx
        have hby := mul_b (i := j) (d := dy) (by omega) hy
        refine es_sg 11 (p := (r32 i) ∧ (r32 j)) (pc' := 131) (ls' := [some (aR 0 (0 : Int)), some (aI m), some (aI w), some (aI rows), some (aL dx), none, some (aL dy), none, some (aI cp), some (aI j), some (aI i)]) (st' := [aI (0 : Int), aL (j * dy), aL (i * dx), aI m, aR 0 (0 : Int)]) (S' := S) rfl ⟨⟨by omega, by omega⟩, ⟨by omega, by omega⟩⟩ ?_
        refine es_callV rfl rfl 0 (0 : Int) [aI m, aL (i * dx), aL (j * dy), aI (0 : Int)] [] rfl rfl rfl rfl (Nat.le_of_ble_eq_true rfl) (Nat.le_of_ble_eq_true rfl) (Nat.le_of_ble_eq_true rfl) ?_
        refine m53 (A := B) hB hCB (m := m) (dx := (i * dx)) (dy := (j * dy)) (t := 0) hm hbx hby (by omega) (fun hc131 => ?_) (fun hc131 S1 k1 k2 => ?_)
        · show Es G 115 134 [some (aR 0 (0 : Int)), some (aI m), some (aI w), some (aI rows), some (aL dx), none, some (aL dy), none, some (aI cp), some (aI j), some (aI i)] [aI (-1 : Int)] S _ _
          refine es_s0 3 (pc' := 100) (ls' := [some (aR 0 (0 : Int)), some (aI m), some (aI w), some (aI rows), some (aL dx), none, some (aL dy), none, some (aI cp), some (aI j), some (aI (i + 1))]) (st' := []) (S' := S) rfl ?_
          obtain ⟨n, rfl⟩ : ∃ m, n = m + 1 := ⟨n - 1, by omega⟩
          unfold arF at h
          rw [show e + i + 1 = e + (i + 1) from by omega] at h
          by_cases h0 : e + i = 0
          · rw [if_pos h0] at h
            exact ih (N - 1) (by omega) n B S j (i + 1) e hB hCB hm (by omega) (by omega) he (by omega) (by omega) h
          · rw [if_neg h0, ac_no (by omega)] at h
            exact ih (N - 1) (by omega) n B S j (i + 1) e hB hCB hm (by omega) (by omega) he (by omega) (by omega) h
        · show Es G 115 134 [some (aR 0 (0 : Int)), some (aI m), some (aI w), some (aI rows), some (aL dx), none, some (aL dy), none, some (aI cp), some (aI j), some (aI i)] [aI (S 0 0 6)] S1 _ _
          refine es_rg (fun hg2 => ?_)
          refine es_s0 3 (pc' := 100) (ls' := [some (aR 0 (0 : Int)), some (aI m), some (aI w), some (aI rows), some (aL dx), none, some (aL dy), none, some (aI cp), some (aI j), some (aI (i + 1))]) (st' := []) (S' := S1) rfl ?_
          obtain ⟨n, rfl⟩ : ∃ m, n = m + 1 := ⟨n - 1, by omega⟩
          unfold arF at h
          rw [if_neg (by omega), hmod.1, hmod.2, show e + i + 1 = e + (i + 1) from by omega] at h
          exact ih (N - 1) (by omega) n _ S1 j (i + 1) e k1 (hCB.ac hm hbx hby (by omega)) (ac_m hm) (by omega) (by omega) he (by omega) (by omega) (fun S' j1 j2 => h S' j1 (k2.tr j2))
      · refine es_s0 1 (pc' := 113) (ls' := [some (aR 0 (0 : Int)), some (aI m), some (aI w), some (aI rows), some (aL dx), none, some (aL dy), none, some (aI cp), some (aI j), some (aI i)]) (st' := [aI j]) (S' := S) rfl ?_
        refine es_if rfl 135 rfl ⟨by omega, by omega⟩ (fun (g113 : j ≤ (0 : Int)) => ?_) (fun (g113 : ¬ (j ≤ (0 : Int))) => ?_)
        · refine es_s0 2 (pc' := 100) (ls' := [some (aR 0 (0 : Int)), some (aI m), some (aI w), some (aI rows), some (aL dx), none, some (aL dy), none, some (aI cp), some (aI j), some (aI (i + 1))]) (st' := []) (S' := S) rfl ?_
          obtain ⟨n, rfl⟩ : ∃ m, n = m + 1 := ⟨n - 1, by omega⟩
          unfold arF at h
          rw [show e + i + 1 = e + (i + 1) from by omega] at h
          by_cases h0 : e + i = 0
          · rw [if_pos h0] at h
            exact ih (N - 1) (by omega) n B S j (i + 1) e hB hCB hm (by omega) (by omega) he (by omega) (by omega) h
          · rw [if_neg h0, ac_no (by omega)] at h
            exact ih (N - 1) (by omega) n B S j (i + 1) e hB hCB hm (by omega) (by omega) he (by omega) (by omega) h
        · have hmod := row_mod (i := i) (j := j) (w := w) (e := e) (by omega) he
          have hbx := mul_b (i := i) (d := dx) (by omega) hx
          have hby := mul_b (i := j) (d := dy) (by omega) hy
          refine es_sg 11 (p := (r32 i) ∧ (r32 j)) (pc' := 131) (ls' := [some (aR 0 (0 : Int)), some (aI m), some (aI w), some (aI rows), some (aL dx), none, some (aL dy), none, some (aI cp), some (aI j), some (aI i)]) (st' := [aI (0 : Int), aL (j * dy), aL (i * dx), aI m, aR 0 (0 : Int)]) (S' := S) rfl ⟨⟨by omega, by omega⟩, ⟨by omega, by omega⟩⟩ ?_
          refine es_callV rfl rfl 0 (0 : Int) [aI m, aL (i * dx), aL (j * dy), aI (0 : Int)] [] rfl rfl rfl rfl (Nat.le_of_ble_eq_true rfl) (Nat.le_of_ble_eq_true rfl) (Nat.le_of_ble_eq_true rfl) ?_
          refine m53 (A := B) hB hCB (m := m) (dx := (i * dx)) (dy := (j * dy)) (t := 0) hm hbx hby (by omega) (fun hc131 => ?_) (fun hc131 S1 k1 k2 => ?_)
          · show Es G 115 134 [some (aR 0 (0 : Int)), some (aI m), some (aI w), some (aI rows), some (aL dx), none, some (aL dy), none, some (aI cp), some (aI j), some (aI i)] [aI (-1 : Int)] S _ _
            refine es_s0 3 (pc' := 100) (ls' := [some (aR 0 (0 : Int)), some (aI m), some (aI w), some (aI rows), some (aL dx), none, some (aL dy), none, some (aI cp), some (aI j), some (aI (i + 1))]) (st' := []) (S' := S) rfl ?_
            obtain ⟨n, rfl⟩ : ∃ m, n = m + 1 := ⟨n - 1, by omega⟩
            unfold arF at h
            rw [show e + i + 1 = e + (i + 1) from by omega] at h
            by_cases h0 : e + i = 0
            · rw [if_pos h0] at h
              exact ih (N - 1) (by omega) n B S j (i + 1) e hB hCB hm (by omega) (by omega) he (by omega) (by omega) h
            · rw [if_neg h0, ac_no (by omega)] at h
              exact ih (N - 1) (by omega) n B S j (i + 1) e hB hCB hm (by omega) (by omega) he (by omega) (by omega) h
          · show Es G 115 134 [some (aR 0 (0 : Int)), some (aI m), some (aI w), some (aI rows), some (aL dx), none, some (aL dy), none, some (aI cp), some (aI j), some (aI i)] [aI (S 0 0 6)] S1 _ _
            refine es_rg (fun hg3 => ?_)
            refine es_s0 3 (pc' := 100) (ls' := [some (aR 0 (0 : Int)), some (aI m), some (aI w), some (aI rows), some (aL dx), none, some (aL dy), none, some (aI cp), some (aI j), some (aI (i + 1))]) (st' := []) (S' := S1) rfl ?_
            obtain ⟨n, rfl⟩ : ∃ m, n = m + 1 := ⟨n - 1, by omega⟩
            unfold arF at h
            rw [if_neg (by omega), hmod.1, hmod.2, show e + i + 1 = e + (i + 1) from by omega] at h
            exact ih (N - 1) (by omega) n _ S1 j (i + 1) e k1 (hCB.ac hm hbx hby (by omega)) (ac_m hm) (by omega) (by omega) he (by omega) (by omega) (fun S' j1 j2 => h S' j1 (k2.tr j2))
theorem m115 {G : Gw} {S : Sg} {k : Nat} {Q : AQ} {A : Sg} (hL : Lk A S) (hA : CI A) {m w rows dx dy : Int} (hm : r32 m) (hw : r32 w) (hrs : r32 rows) (hx : r64 dx) (hy : r64 dy) (t1 : ¬ (0 ≤ m ∧ m < S 0 0 6) → Q (.inr 1) S) (t2 : (0 ≤ m ∧ m < S 0 0 6) ∧ ¬ ((1 ≤ w ∧ w ≤ 10) ∧ (1 ≤ rows ∧ rows ≤ 10) ∧ (-100000 ≤ dx ∧ dx ≤ 100000) ∧ (-100000 ≤ dy ∧ dy ≤ 100000)) → Q (.inr 0) S) (h1 : ((0 ≤ m ∧ m < S 0 0 6) ∧ ((1 ≤ w ∧ w ≤ 10) ∧ (1 ≤ rows ∧ rows ≤ 10) ∧ (-100000 ≤ dx ∧ dx ≤ 100000) ∧ (-100000 ≤ dy ∧ dy ≤ 100000))) ∧ ¬ (S 2 m 0 = -1 ∧ S 0 0 6 + (w * rows - 1) ≤ 20 ∧ S 0 0 5 + (w * rows - 1) * S 2 m 5 ≤ 60) → Q (.inl (some (aI (-1)))) S) (h0 : ((0 ≤ m ∧ m < S 0 0 6) ∧ ((1 ≤ w ∧ w ≤ 10) ∧ (1 ≤ rows ∧ rows ≤ 10) ∧ (-100000 ≤ dx ∧ dx ≤ 100000) ∧ (-100000 ≤ dy ∧ dy ≤ 100000))) ∧ (S 2 m 0 = -1 ∧ S 0 0 6 + (w * rows - 1) ≤ 20 ∧ S 0 0 5 + (w * rows - 1) * S 2 m 5 ≤ 60) → ∀ S' : Sg, Lk (arF (w * rows).toNat A m w dx dy 0) S' → Fr S S' → Q (.inl (some (aI (w * rows - 1)))) S') : Es G 115 0 (aEnt 11 [aR 0 (0 : Int), aI m, aI w, aI rows, aL dx, aL dy]) [] S (k + 6) Q := by
  have hS := hA.lk hL
  have hnp := hS.1.1
  have hnc := hS.1.2.1
  have e05 : S 0 0 5 = A 0 0 5 := by rw [hL 0 (by decide)]
  have e06 : S 0 0 6 = A 0 0 6 := by rw [hL 0 (by decide)]
  refine es_rg (fun hg1 => ?_)
  refine es_s0 2 (pc' := 2) (ls' := [some (aR 0 (0 : Int)), some (aI m), some (aI w), some (aI rows), some (aL dx), none, some (aL dy), none, none, none, none]) (st' := [aI m, aR 0 (0 : Int)]) (S' := S) rfl ?_
  refine es_callV rfl rfl 0 (0 : Int) [aI m] [] rfl rfl rfl rfl (Nat.le_of_ble_eq_true rfl) (Nat.le_of_ble_eq_true rfl) (Nat.le_of_ble_eq_true rfl) ?_
  refine m34 (n := m) (by assumption) (fun hc2 => ?_) (fun hc2 => ⟨⟨_, rfl, rfl, rfl⟩, ?_⟩)
  · show Es G 115 5 [some (aR 0 (0 : Int)), some (aI m), some (aI w), some (aI rows), some (aL dx), none, some (aL dy), none, none, none, none] [] S _ _
    refine es_s0 2 (pc' := 7) (ls' := [some (aR 0 (0 : Int)), some (aI m), some (aI w), some (aI rows), some (aL dx), none, some (aL dy), none, none, none, none]) (st' := [aI (1 : Int), aI w]) (S' := S) rfl ?_
    refine es_icmp rfl 27 rfl (by assumption) ⟨by decide, by decide⟩ (fun (g7 : w < (1 : Int)) => ?_) (fun (g7 : ¬ (w < (1 : Int))) => ?_)
    · refine es_throw rfl ?_
      first | exact t1 (by omega) | exact t2 (by omega)
    · refine es_s0 2 (pc' := 13) (ls' := [some (aR 0 (0 : Int)), some (aI m), some (aI w), some (aI rows), some (aL dx), none, some (aL dy), none, none, none, none]) (st' := [aI (10 : Int), aI w]) (S' := S) rfl ?_
      refine es_icmp rfl 27 rfl (by assumption) ⟨by decide, by decide⟩ (fun (g13 : (10 : Int) < w) => ?_) (fun (g13 : ¬ ((10 : Int) < w)) => ?_)
      · refine es_throw rfl ?_
        first | exact t1 (by omega) | exact t2 (by omega)
      · refine es_s0 2 (pc' := 18) (ls' := [some (aR 0 (0 : Int)), some (aI m), some (aI w), some (aI rows), some (aL dx), none, some (aL dy), none, none, none, none]) (st' := [aI (1 : Int), aI rows]) (S' := S) rfl ?_
        refine es_icmp rfl 27 rfl (by assumption) ⟨by decide, by decide⟩ (fun (g18 : rows < (1 : Int)) => ?_) (fun (g18 : ¬ (rows < (1 : Int))) => ?_)
        · refine es_throw rfl ?_
          first | exact t1 (by omega) | exact t2 (by omega)
        · refine es_s0 2 (pc' := 24) (ls' := [some (aR 0 (0 : Int)), some (aI m), some (aI w), some (aI rows), some (aL dx), none, some (aL dy), none, none, none, none]) (st' := [aI (10 : Int), aI rows]) (S' := S) rfl ?_
          refine es_icmp rfl 37 rfl (by assumption) ⟨by decide, by decide⟩ (fun (g24 : rows ≤ (10 : Int)) => ?_) (fun (g24 : ¬ (rows ≤ (10 : Int))) => ?_)
          · refine es_s0 2 (pc' := 42) (ls' := [some (aR 0 (0 : Int)), some (aI m), some (aI w), some (aI rows), some (aL dx), none, some (aL dy), none, none, none, none]) (st' := [aL (100000 : Int), aL dx]) (S' := S) rfl ?_
            refine es_callS rfl rfl [aL dx, aL (100000 : Int)] [] rfl rfl (Nat.le_of_ble_eq_true rfl) (Nat.le_of_ble_eq_true rfl) (Nat.le_of_ble_eq_true rfl) ?_
            refine m18 (v := dx) (m := (100000 : Int)) (by assumption) ⟨by omega, by omega⟩ (fun hc42 => ?_) (fun hc42 => ?_)
            · show Es G 115 45 [some (aR 0 (0 : Int)), some (aI m), some (aI w), some (aI rows), some (aL dx), none, some (aL dy), none, none, none, none] [aI (1 : Int)] S _ _
              refine es_if rfl 59 rfl ⟨by decide, by decide⟩ (fun (g45 : (1 : Int) = (0 : Int)) => absurd g45 (by decide)) (fun (g45 : ¬ ((1 : Int) = (0 : Int))) => ?_)
              refine es_s0 2 (pc' := 53) (ls' := [some (aR 0 (0 : Int)), some (aI m), some (aI w), some (aI rows), some (aL dx), none, some (aL dy), none, none, none, none]) (st' := [aL (100000 : Int), aL dy]) (S' := S) rfl ?_
              refine es_callS rfl rfl [aL dy, aL (100000 : Int)] [] rfl rfl (Nat.le_of_ble_eq_true rfl) (Nat.le_of_ble_eq_true rfl) (Nat.le_of_ble_eq_true rfl) ?_
              refine m18 (v := dy) (m := (100000 : Int)) (by assumption) ⟨by omega, by omega⟩ (fun hc53 => ?_) (fun hc53 => ?_)
              · show Es G 115 56 [some (aR 0 (0 : Int)), some (aI m), some (aI w), some (aI rows), some (aL dx), none, some (aL dy), none, none, none, none] [aI (1 : Int)] S _ _
                refine es_if rfl 69 rfl ⟨by decide, by decide⟩ (fun (g56 : ¬ (1 : Int) = (0 : Int)) => ?_) (fun (g56 : ¬ (¬ (1 : Int) = (0 : Int))) => absurd g56 (by decide))
                have hwr1 : 1 ≤ w * rows := Int.mul_pos (by omega) (by omega)
                have hwr2 : w * rows ≤ 10 * 10 := Int.mul_le_mul (by omega) (by omega) (by omega) (by omega)
                refine es_s0 9 (pc' := 80) (ls' := [some (aR 0 (0 : Int)), some (aI m), some (aI w), some (aI rows), some (aL dx), none, some (aL dy), none, some (aI ((w * rows) - 1)), none, none]) (st' := [aI ((w * rows) - 1), aI m, aR 0 (0 : Int)]) (S' := S) rfl ?_
                refine es_callV rfl rfl 0 (0 : Int) [aI m, aI ((w * rows) - 1)] [] rfl rfl rfl rfl (Nat.le_of_ble_eq_true rfl) (Nat.le_of_ble_eq_true rfl) (Nat.le_of_ble_eq_true rfl) ?_
                refine m42 hnp hnc (c := m) (n := ((w * rows) - 1)) (by omega) (by omega) (by have q := hS.size (c := m) (by omega); exact q) (fun hc80 => ?_) (fun hc80 => ?_)
                · show Es G 115 83 [some (aR 0 (0 : Int)), some (aI m), some (aI w), some (aI rows), some (aL dx), none, some (aL dy), none, some (aI ((w * rows) - 1)), none, none] [aI (1 : Int)] S _ _
                  refine es_if rfl 88 rfl ⟨by decide, by decide⟩ (fun (g83 : ¬ (1 : Int) = (0 : Int)) => ?_) (fun (g83 : ¬ (¬ (1 : Int) = (0 : Int))) => absurd g83 (by decide))
                  refine es_s0 4 (pc' := 94) (ls' := [some (aR 0 (0 : Int)), some (aI m), some (aI w), some (aI rows), some (aL dx), none, some (aL dy), none, some (aI ((w * rows) - 1)), some (aI (0 : Int)), none]) (st' := [aI rows, aI (0 : Int)]) (S' := S) rfl ?_
                  refine es_icmp rfl 147 rfl ⟨by decide, by decide⟩ (by assumption) (fun (g94 : rows ≤ (0 : Int)) => ?_) (fun (g94 : ¬ (rows ≤ (0 : Int))) => ?_)
                  · refine es_s0 1 (pc' := 149) (ls' := [some (aR 0 (0 : Int)), some (aI m), some (aI w), some (aI rows), some (aL dx), none, some (aL dy), none, some (aI ((w * rows) - 1)), some (aI (0 : Int)), none]) (st' := [aI ((w * rows) - 1)]) (S' := S) rfl ?_
                    refine es_iret rfl rfl rfl (Or.inl rfl) ?_
                    first | exact h1 ⟨by omega, by omega⟩ | (exfalso; omega)
                  · refine es_s0 2 (pc' := 100) (ls' := [some (aR 0 (0 : Int)), some (aI m), some (aI w), some (aI rows), some (aL dx), none, some (aL dy), none, some (aI ((w * rows) - 1)), some (aI (0 : Int)), some (aI (0 : Int))]) (st' := []) (S' := S) rfl ?_
                    have hm' : (0 ≤ m ∧ m < A 0 0 6) ∧ A 2 m 0 = -1 := ⟨by omega, by have q := hL 2 (by decide); rw [← q]; omega⟩
                    exact m115_l (by omega) (by omega) (by omega) (by omega) ((w * rows).toNat + rows.toNat) (w * rows).toNat A S 0 0 0 hL hA hm' (by omega) (by omega) (by omega) (by omega) (by omega) (fun S' j1 j2 => h0 (by omega) S' j1 j2)
                · show Es G 115 83 [some (aR 0 (0 : Int)), some (aI m), some (aI w), some (aI rows), some (aL dx), none, some (aL dy), none, some (aI ((w * rows) - 1)), none, none] [aI (0 : Int)] S _ _
                  refine es_if rfl 88 rfl ⟨by decide, by decide⟩ (fun (g83 : ¬ (0 : Int) = (0 : Int)) => absurd g83 (by decide)) (fun (g83 : ¬ (¬ (0 : Int) = (0 : Int))) => ?_)
                  refine es_s0 1 (pc' := 87) (ls' := [some (aR 0 (0 : Int)), some (aI m), some (aI w), some (aI rows), some (aL dx), none, some (aL dy), none, some (aI ((w * rows) - 1)), none, none]) (st' := [aI (-1 : Int)]) (S' := S) rfl ?_
                  refine es_iret rfl rfl rfl (Or.inl rfl) ?_
                  first | exact h1 ⟨by omega, by omega⟩ | (exfalso; omega)
              · show Es G 115 56 [some (aR 0 (0 : Int)), some (aI m), some (aI w), some (aI rows), some (aL dx), none, some (aL dy), none, none, none, none] [aI (0 : Int)] S _ _
                refine es_if rfl 69 rfl ⟨by decide, by decide⟩ (fun (g56 : ¬ (0 : Int) = (0 : Int)) => absurd g56 (by decide)) (fun (g56 : ¬ (¬ (0 : Int) = (0 : Int))) => ?_)
                refine es_throw rfl ?_
                first | exact t1 (by omega) | exact t2 (by omega)
            · show Es G 115 45 [some (aR 0 (0 : Int)), some (aI m), some (aI w), some (aI rows), some (aL dx), none, some (aL dy), none, none, none, none] [aI (0 : Int)] S _ _
              refine es_if rfl 59 rfl ⟨by decide, by decide⟩ (fun (g45 : (0 : Int) = (0 : Int)) => ?_) (fun (g45 : ¬ ((0 : Int) = (0 : Int))) => absurd g45 (by decide))
              refine es_throw rfl ?_
              first | exact t1 (by omega) | exact t2 (by omega)
          · refine es_throw rfl ?_
            first | exact t1 (by omega) | exact t2 (by omega)
  · first | exact t1 (by omega) | exact t2 (by omega)
