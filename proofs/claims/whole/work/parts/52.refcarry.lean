/-! THE REFERENCE: copy, carry, array -/
theorem n62 {G : Gw} {S : Sg} {k : Nat} {Q : AQ} {A : Sg} (hA : CI A) (hR : RR A S) {m dx dy t : Int} (hm : r32 m) (hx : r64 dx) (hy : r64 dy) (ht : r32 t) (t1 : ¬ (0 ≤ m ∧ m < A 0 0 6) → Q (.inl (some (aI 0))) (su S 20 0 0 1)) (t2 : (0 ≤ m ∧ m < A 0 0 6) ∧ ¬ (((-1000000 ≤ dx ∧ dx ≤ 1000000) ∧ (-1000000 ≤ dy ∧ dy ≤ 1000000)) ∧ (0 ≤ t ∧ t < 4)) → Q (.inl (some (aI 0))) (su S 20 0 0 2)) (h1 : ((0 ≤ m ∧ m < A 0 0 6) ∧ ((-1000000 ≤ dx ∧ dx ≤ 1000000) ∧ (-1000000 ≤ dy ∧ dy ≤ 1000000)) ∧ (0 ≤ t ∧ t < 4)) ∧ ¬ (A 2 m 0 = -1 ∧ A 0 0 6 + 1 ≤ 20 ∧ A 0 0 5 + A 2 m 5 ≤ 60) → Q (.inl (some (aI (-1)))) (su S 20 0 0 0)) (h0 : ((0 ≤ m ∧ m < A 0 0 6) ∧ ((-1000000 ≤ dx ∧ dx ≤ 1000000) ∧ (-1000000 ≤ dy ∧ dy ≤ 1000000)) ∧ (0 ≤ t ∧ t < 4)) ∧ (A 2 m 0 = -1 ∧ A 0 0 6 + 1 ≤ 20 ∧ A 0 0 5 + A 2 m 5 ≤ 60) → ∀ S' : Sg, RR (acF A m dx dy t) S' → Fx S S' → S' 20 0 0 = 0 → Q (.inl (some (aI (A 0 0 6)))) S') : Es G 62 0 (aEnt 8 [aR 20 (0 : Int), aI m, aL dx, aL dy, aI t]) [] S (k + 4) Q := by
  have n1 := hA.1.1
  have n2 := hA.1.2.1
  have n3 := hA.1.2.2
  have e1 : S 20 0 1 = A 0 0 5 := hR.1.1
  have e10 : S 20 0 10 = A 0 0 6 := hR.1.2.1
  have e17 : S 20 0 17 = A 0 0 7 := hR.1.2.2
  refine es_rg (fun hg1 => ?_)
  refine es_s0 1 (pc' := 1) (ls' := [some (aR 20 (0 : Int)), some (aI m), some (aL dx), none, some (aL dy), none, some (aI t), none]) (st' := [aL dx]) (S' := S) rfl ?_
  refine es_callS rfl rfl [aL dx] [] rfl rfl (Nat.le_of_ble_eq_true rfl) (Nat.le_of_ble_eq_true rfl) (Nat.le_of_ble_eq_true rfl) ?_
  refine n25 (S := S) (v := dx) (by assumption) (fun hc1 => ?_) (fun hc1 => ?_)
  · show Es G 62 4 [some (aR 20 (0 : Int)), some (aI m), some (aL dx), none, some (aL dy), none, some (aI t), none] [aI (1 : Int)] S _ _
    refine es_if rfl 30 rfl ⟨by decide, by decide⟩ (fun (g4 : (1 : Int) = (0 : Int)) => absurd g4 (by decide)) (fun (g4 : ¬ ((1 : Int) = (0 : Int))) => ?_)
    refine es_s0 1 (pc' := 9) (ls' := [some (aR 20 (0 : Int)), some (aI m), some (aL dx), none, some (aL dy), none, some (aI t), none]) (st' := [aL dy]) (S' := S) rfl ?_
    refine es_callS rfl rfl [aL dy] [] rfl rfl (Nat.le_of_ble_eq_true rfl) (Nat.le_of_ble_eq_true rfl) (Nat.le_of_ble_eq_true rfl) ?_
    refine n25 (S := S) (v := dy) (by assumption) (fun hc9 => ?_) (fun hc9 => ?_)
    · show Es G 62 12 [some (aR 20 (0 : Int)), some (aI m), some (aL dx), none, some (aL dy), none, some (aI t), none] [aI (1 : Int)] S _ _
      refine es_if rfl 30 rfl ⟨by decide, by decide⟩ (fun (g12 : (1 : Int) = (0 : Int)) => absurd g12 (by decide)) (fun (g12 : ¬ ((1 : Int) = (0 : Int))) => ?_)
      refine es_s0 1 (pc' := 17) (ls' := [some (aR 20 (0 : Int)), some (aI m), some (aL dx), none, some (aL dy), none, some (aI t), none]) (st' := [aI t]) (S' := S) rfl ?_
      refine es_if rfl 30 rfl (by assumption) (fun (g17 : t < (0 : Int)) => ?_) (fun (g17 : ¬ (t < (0 : Int))) => ?_)
      · refine es_s0 5 (pc' := 36) (ls' := [some (aR 20 (0 : Int)), some (aI m), some (aL dx), none, some (aL dy), none, some (aI t), some (aI (0 : Int))]) (st' := [aI m, aR 20 (0 : Int), aR 20 (0 : Int)]) (S' := S) rfl ?_
        refine es_callV rfl rfl 20 (0 : Int) [aI m] [aR 20 (0 : Int)] rfl rfl rfl rfl (Nat.le_of_ble_eq_true rfl) (Nat.le_of_ble_eq_true rfl) (Nat.le_of_ble_eq_true rfl) ?_
        refine n39 (S := S) (n := m) (by assumption) (fun hc36 => ?_) (fun hc36 => ?_)
        · show Es G 62 39 [some (aR 20 (0 : Int)), some (aI m), some (aL dx), none, some (aL dy), none, some (aI t), some (aI (0 : Int))] [aI (1 : Int), aR 20 (0 : Int)] S _ _
          refine es_if rfl 46 rfl ⟨by decide, by decide⟩ (fun (g39 : ¬ (1 : Int) = (0 : Int)) => ?_) (fun (g39 : ¬ (¬ (1 : Int) = (0 : Int))) => absurd g39 (by decide))
          refine es_s0 1 (pc' := 48) (ls' := [some (aR 20 (0 : Int)), some (aI m), some (aL dx), none, some (aL dy), none, some (aI t), some (aI (0 : Int))]) (st' := [aI (0 : Int), aR 20 (0 : Int)]) (S' := S) rfl ?_
          refine es_if rfl 55 rfl ⟨by decide, by decide⟩ (fun (g48 : (0 : Int) = (0 : Int)) => ?_) (fun (g48 : ¬ ((0 : Int) = (0 : Int))) => absurd g48 (by decide))
          refine es_sg 2 (p := ((0 : Int) = 0) ∧ (r32 (2 : Int))) (pc' := 59) (ls' := [some (aR 20 (0 : Int)), some (aI m), some (aL dx), none, some (aL dy), none, some (aI t), some (aI (0 : Int))]) (st' := []) (S' := su S 20 0 0 2) rfl ⟨rfl, ⟨by decide, by decide⟩⟩ ?_
          refine es_rg (fun hg2 => ?_)
          refine es_sg 2 (p := (0 : Int) = 0) (pc' := 63) (ls' := [some (aR 20 (0 : Int)), some (aI m), some (aL dx), none, some (aL dy), none, some (aI t), some (aI (0 : Int))]) (st' := [aI (2 : Int)]) (S' := su S 20 0 0 2) rfl rfl ?_
          refine es_if rfl 68 rfl ⟨by omega, by omega⟩ (fun (g63 : (2 : Int) = (0 : Int)) => absurd g63 (by decide)) (fun (g63 : ¬ ((2 : Int) = (0 : Int))) => ?_)
          refine es_s0 1 (pc' := 67) (ls' := [some (aR 20 (0 : Int)), some (aI m), some (aL dx), none, some (aL dy), none, some (aI t), some (aI (0 : Int))]) (st' := [aI (0 : Int)]) (S' := su S 20 0 0 2) rfl ?_
          refine es_iret rfl rfl rfl (Or.inl rfl) ?_
          first | exact t2 (by omega) | (exfalso; omega)
        · show Es G 62 39 [some (aR 20 (0 : Int)), some (aI m), some (aL dx), none, some (aL dy), none, some (aI t), some (aI (0 : Int))] [aI (0 : Int), aR 20 (0 : Int)] S _ _
          refine es_if rfl 46 rfl ⟨by decide, by decide⟩ (fun (g39 : ¬ (0 : Int) = (0 : Int)) => absurd g39 (by decide)) (fun (g39 : ¬ (¬ (0 : Int) = (0 : Int))) => ?_)
          refine es_sg 3 (p := ((0 : Int) = 0) ∧ (r32 (1 : Int))) (pc' := 59) (ls' := [some (aR 20 (0 : Int)), some (aI m), some (aL dx), none, some (aL dy), none, some (aI t), some (aI (0 : Int))]) (st' := []) (S' := su S 20 0 0 1) rfl ⟨rfl, ⟨by decide, by decide⟩⟩ ?_
          refine es_rg (fun hg3 => ?_)
          refine es_sg 2 (p := (0 : Int) = 0) (pc' := 63) (ls' := [some (aR 20 (0 : Int)), some (aI m), some (aL dx), none, some (aL dy), none, some (aI t), some (aI (0 : Int))]) (st' := [aI (1 : Int)]) (S' := su S 20 0 0 1) rfl rfl ?_
          refine es_if rfl 68 rfl ⟨by omega, by omega⟩ (fun (g63 : (1 : Int) = (0 : Int)) => absurd g63 (by decide)) (fun (g63 : ¬ ((1 : Int) = (0 : Int))) => ?_)
          refine es_s0 1 (pc' := 67) (ls' := [some (aR 20 (0 : Int)), some (aI m), some (aL dx), none, some (aL dy), none, some (aI t), some (aI (0 : Int))]) (st' := [aI (0 : Int)]) (S' := su S 20 0 0 1) rfl ?_
          refine es_iret rfl rfl rfl (Or.inl rfl) ?_
          first | exact t1 (by omega) | (exfalso; omega)
      · refine es_s0 2 (pc' := 23) (ls' := [some (aR 20 (0 : Int)), some (aI m), some (aL dx), none, some (aL dy), none, some (aI t), none]) (st' := [aI (4 : Int), aI t]) (S' := S) rfl ?_
        refine es_icmp rfl 30 rfl (by assumption) ⟨by decide, by decide⟩ (fun (g23 : (4 : Int) ≤ t) => ?_) (fun (g23 : ¬ ((4 : Int) ≤ t)) => ?_)
        · refine es_s0 5 (pc' := 36) (ls' := [some (aR 20 (0 : Int)), some (aI m), some (aL dx), none, some (aL dy), none, some (aI t), some (aI (0 : Int))]) (st' := [aI m, aR 20 (0 : Int), aR 20 (0 : Int)]) (S' := S) rfl ?_
          refine es_callV rfl rfl 20 (0 : Int) [aI m] [aR 20 (0 : Int)] rfl rfl rfl rfl (Nat.le_of_ble_eq_true rfl) (Nat.le_of_ble_eq_true rfl) (Nat.le_of_ble_eq_true rfl) ?_
          refine n39 (S := S) (n := m) (by assumption) (fun hc36 => ?_) (fun hc36 => ?_)
          · show Es G 62 39 [some (aR 20 (0 : Int)), some (aI m), some (aL dx), none, some (aL dy), none, some (aI t), some (aI (0 : Int))] [aI (1 : Int), aR 20 (0 : Int)] S _ _
            refine es_if rfl 46 rfl ⟨by decide, by decide⟩ (fun (g39 : ¬ (1 : Int) = (0 : Int)) => ?_) (fun (g39 : ¬ (¬ (1 : Int) = (0 : Int))) => absurd g39 (by decide))
            refine es_s0 1 (pc' := 48) (ls' := [some (aR 20 (0 : Int)), some (aI m), some (aL dx), none, some (aL dy), none, some (aI t), some (aI (0 : Int))]) (st' := [aI (0 : Int), aR 20 (0 : Int)]) (S' := S) rfl ?_
            refine es_if rfl 55 rfl ⟨by decide, by decide⟩ (fun (g48 : (0 : Int) = (0 : Int)) => ?_) (fun (g48 : ¬ ((0 : Int) = (0 : Int))) => absurd g48 (by decide))
            refine es_sg 2 (p := ((0 : Int) = 0) ∧ (r32 (2 : Int))) (pc' := 59) (ls' := [some (aR 20 (0 : Int)), some (aI m), some (aL dx), none, some (aL dy), none, some (aI t), some (aI (0 : Int))]) (st' := []) (S' := su S 20 0 0 2) rfl ⟨rfl, ⟨by decide, by decide⟩⟩ ?_
            refine es_rg (fun hg4 => ?_)
            refine es_sg 2 (p := (0 : Int) = 0) (pc' := 63) (ls' := [some (aR 20 (0 : Int)), some (aI m), some (aL dx), none, some (aL dy), none, some (aI t), some (aI (0 : Int))]) (st' := [aI (2 : Int)]) (S' := su S 20 0 0 2) rfl rfl ?_
            refine es_if rfl 68 rfl ⟨by omega, by omega⟩ (fun (g63 : (2 : Int) = (0 : Int)) => absurd g63 (by decide)) (fun (g63 : ¬ ((2 : Int) = (0 : Int))) => ?_)
            refine es_s0 1 (pc' := 67) (ls' := [some (aR 20 (0 : Int)), some (aI m), some (aL dx), none, some (aL dy), none, some (aI t), some (aI (0 : Int))]) (st' := [aI (0 : Int)]) (S' := su S 20 0 0 2) rfl ?_
            refine es_iret rfl rfl rfl (Or.inl rfl) ?_
            first | exact t2 (by omega) | (exfalso; omega)
          · show Es G 62 39 [some (aR 20 (0 : Int)), some (aI m), some (aL dx), none, some (aL dy), none, some (aI t), some (aI (0 : Int))] [aI (0 : Int), aR 20 (0 : Int)] S _ _
            refine es_if rfl 46 rfl ⟨by decide, by decide⟩ (fun (g39 : ¬ (0 : Int) = (0 : Int)) => absurd g39 (by decide)) (fun (g39 : ¬ (¬ (0 : Int) = (0 : Int))) => ?_)
            refine es_sg 3 (p := ((0 : Int) = 0) ∧ (r32 (1 : Int))) (pc' := 59) (ls' := [some (aR 20 (0 : Int)), some (aI m), some (aL dx), none, some (aL dy), none, some (aI t), some (aI (0 : Int))]) (st' := []) (S' := su S 20 0 0 1) rfl ⟨rfl, ⟨by decide, by decide⟩⟩ ?_
            refine es_rg (fun hg5 => ?_)
            refine es_sg 2 (p := (0 : Int) = 0) (pc' := 63) (ls' := [some (aR 20 (0 : Int)), some (aI m), some (aL dx), none, some (aL dy), none, some (aI t), some (aI (0 : Int))]) (st' := [aI (1 : Int)]) (S' := su S 20 0 0 1) rfl rfl ?_
            refine es_if rfl 68 rfl ⟨by omega, by omega⟩ (fun (g63 : (1 : Int) = (0 : Int)) => absurd g63 (by decide)) (fun (g63 : ¬ ((1 : Int) = (0 : Int))) => ?_)
            refine es_s0 1 (pc' := 67) (ls' := [some (aR 20 (0 : Int)), some (aI m), some (aL dx), none, some (aL dy), none, some (aI t), some (aI (0 : Int))]) (st' := [aI (0 : Int)]) (S' := su S 20 0 0 1) rfl ?_
            refine es_iret rfl rfl rfl (Or.inl rfl) ?_
            first | exact t1 (by omega) | (exfalso; omega)
        · refine es_s0 6 (pc' := 36) (ls' := [some (aR 20 (0 : Int)), some (aI m), some (aL dx), none, some (aL dy), none, some (aI t), some (aI (1 : Int))]) (st' := [aI m, aR 20 (0 : Int), aR 20 (0 : Int)]) (S' := S) rfl ?_
          refine es_callV rfl rfl 20 (0 : Int) [aI m] [aR 20 (0 : Int)] rfl rfl rfl rfl (Nat.le_of_ble_eq_true rfl) (Nat.le_of_ble_eq_true rfl) (Nat.le_of_ble_eq_true rfl) ?_
          refine n39 (S := S) (n := m) (by assumption) (fun hc36 => ?_) (fun hc36 => ?_)
          · show Es G 62 39 [some (aR 20 (0 : Int)), some (aI m), some (aL dx), none, some (aL dy), none, some (aI t), some (aI (1 : Int))] [aI (1 : Int), aR 20 (0 : Int)] S _ _
            refine es_if rfl 46 rfl ⟨by decide, by decide⟩ (fun (g39 : ¬ (1 : Int) = (0 : Int)) => ?_) (fun (g39 : ¬ (¬ (1 : Int) = (0 : Int))) => absurd g39 (by decide))
            refine es_s0 1 (pc' := 48) (ls' := [some (aR 20 (0 : Int)), some (aI m), some (aL dx), none, some (aL dy), none, some (aI t), some (aI (1 : Int))]) (st' := [aI (1 : Int), aR 20 (0 : Int)]) (S' := S) rfl ?_
            refine es_if rfl 55 rfl ⟨by decide, by decide⟩ (fun (g48 : (1 : Int) = (0 : Int)) => absurd g48 (by decide)) (fun (g48 : ¬ ((1 : Int) = (0 : Int))) => ?_)
            refine es_sg 3 (p := ((0 : Int) = 0) ∧ (r32 (0 : Int))) (pc' := 59) (ls' := [some (aR 20 (0 : Int)), some (aI m), some (aL dx), none, some (aL dy), none, some (aI t), some (aI (1 : Int))]) (st' := []) (S' := su S 20 0 0 0) rfl ⟨rfl, ⟨by decide, by decide⟩⟩ ?_
            refine es_rg (fun hg6 => ?_)
            refine es_sg 2 (p := (0 : Int) = 0) (pc' := 63) (ls' := [some (aR 20 (0 : Int)), some (aI m), some (aL dx), none, some (aL dy), none, some (aI t), some (aI (1 : Int))]) (st' := [aI (0 : Int)]) (S' := su S 20 0 0 0) rfl rfl ?_
            refine es_if rfl 68 rfl ⟨by omega, by omega⟩ (fun (g63 : (0 : Int) = (0 : Int)) => ?_) (fun (g63 : ¬ ((0 : Int) = (0 : Int))) => absurd g63 (by decide))
            have hcc := (hR.2.2.2.1 m (by omega) (by omega)).1
            have hsz := hA.size (c := m) (by omega)
            refine es_sg 5 (p := ((0 : Int) = 0) ∧ (((0 : Int) = 0) ∧ (0 ≤ m ∧ m < 20))) (pc' := 75) (ls' := [some (aR 20 (0 : Int)), some (aI m), some (aL dx), none, some (aL dy), none, some (aI t), some (aI (1 : Int))]) (st' := [aI (-1 : Int), aI (S 31 0 m)]) (S' := su S 20 0 0 0) rfl ⟨rfl, ⟨rfl, (by omega)⟩⟩ ?_
            refine es_icmp rfl 102 rfl (rgI hg1 (t := 31) (i := (0 : Int)) (q := m) (by omega : 0 ≤ (0 : Int) ∧ (0 : Int) < 1) (by omega) rfl) ⟨by decide, by decide⟩ (fun (g75 : ¬ (S 31 0 m) = (-1 : Int)) => ?_) (fun (g75 : ¬ (¬ (S 31 0 m) = (-1 : Int))) => ?_)
            · refine es_s0 1 (pc' := 103) (ls' := [some (aR 20 (0 : Int)), some (aI m), some (aL dx), none, some (aL dy), none, some (aI t), some (aI (1 : Int))]) (st' := [aI (-1 : Int)]) (S' := su S 20 0 0 0) rfl ?_
              refine es_iret rfl rfl rfl (Or.inl rfl) ?_
              first | exact h1 (by omega) | (exfalso; omega)
            · refine es_sg 3 (p := (0 : Int) = 0) (pc' := 84) (ls' := [some (aR 20 (0 : Int)), some (aI m), some (aL dx), none, some (aL dy), none, some (aI t), some (aI (1 : Int))]) (st' := [aI (20 : Int), aI (S 20 0 10)]) (S' := su S 20 0 0 0) rfl rfl ?_
              refine es_icmp rfl 102 rfl (rgI hg1 (t := 20) (i := (0 : Int)) (q := (10 : Int)) (by omega : 0 ≤ (0 : Int) ∧ (0 : Int) < 1) (by omega) rfl) ⟨by decide, by decide⟩ (fun (g84 : (S 20 0 10) = (20 : Int)) => ?_) (fun (g84 : ¬ ((S 20 0 10) = (20 : Int))) => ?_)
              · refine es_s0 1 (pc' := 103) (ls' := [some (aR 20 (0 : Int)), some (aI m), some (aL dx), none, some (aL dy), none, some (aI t), some (aI (1 : Int))]) (st' := [aI (-1 : Int)]) (S' := su S 20 0 0 0) rfl ?_
                refine es_iret rfl rfl rfl (Or.inl rfl) ?_
                first | exact h1 (by omega) | (exfalso; omega)
              · refine es_sg 4 (p := (0 : Int) = 0) (pc' := 93) (ls' := [some (aR 20 (0 : Int)), some (aI m), some (aL dx), none, some (aL dy), none, some (aI t), some (aI (1 : Int))]) (st' := [aI m, aR 20 (0 : Int), aI (S 20 0 1)]) (S' := su S 20 0 0 0) rfl rfl ?_
                refine es_callV rfl rfl 20 (0 : Int) [aI m] [aI (S 20 0 1)] rfl rfl rfl rfl (Nat.le_of_ble_eq_true rfl) (Nat.le_of_ble_eq_true rfl) (Nat.le_of_ble_eq_true rfl) ?_
                refine n56 (S := su S 20 0 0 0) (A := A) hA hR.thr (c := m) (by omega) ?_
                show Es G 62 96 [some (aR 20 (0 : Int)), some (aI m), some (aL dx), none, some (aL dy), none, some (aI t), some (aI (1 : Int))] [aI (A 2 m 5), aI (S 20 0 1)] (su S 20 0 0 0) _ _
                refine es_s0 2 (pc' := 99) (ls' := [some (aR 20 (0 : Int)), some (aI m), some (aL dx), none, some (aL dy), none, some (aI t), some (aI (1 : Int))]) (st' := [aI (60 : Int), aI ((S 20 0 1) + (A 2 m 5))]) (S' := su S 20 0 0 0) rfl ?_
                refine es_icmp rfl 104 rfl ⟨by omega, by omega⟩ ⟨by decide, by decide⟩ (fun (g99 : ((S 20 0 1) + (A 2 m 5)) ≤ (60 : Int)) => ?_) (fun (g99 : ¬ (((S 20 0 1) + (A 2 m 5)) ≤ (60 : Int))) => ?_)
                · refine es_s0 5 (pc' := 111) (ls' := [some (aR 20 (0 : Int)), some (aI m), some (aL dx), none, some (aL dy), none, some (aI t), some (aI (1 : Int))]) (st' := [aI t, aL dy, aL dx, aI m, aR 20 (0 : Int)]) (S' := su S 20 0 0 0) rfl ?_
                  refine es_callV rfl rfl 20 (0 : Int) [aI m, aL dx, aL dy, aI t] [] rfl rfl rfl rfl (Nat.le_of_ble_eq_true rfl) (Nat.le_of_ble_eq_true rfl) (Nat.le_of_ble_eq_true rfl) ?_
                  refine n61 (S := su S 20 0 0 0) (A := A) hA hR.thr (m := m) (dx := dx) (dy := dy) (t := t) ⟨by omega, by omega⟩ (by omega) (by omega) (by omega) (by omega) (by omega) (fun S1 j1 j2 => ?_)
                  show Es G 62 114 [some (aR 20 (0 : Int)), some (aI m), some (aL dx), none, some (aL dy), none, some (aI t), some (aI (1 : Int))] [aI (A 0 0 6)] S1 _ _
                  refine es_rg (fun hg7 => ?_)
                  refine es_iret rfl rfl rfl (Or.inl rfl) ?_
                  exact h0 (by omega) S1 j1 j2.thr.1 j2.thr.2
                · refine es_s0 1 (pc' := 103) (ls' := [some (aR 20 (0 : Int)), some (aI m), some (aL dx), none, some (aL dy), none, some (aI t), some (aI (1 : Int))]) (st' := [aI (-1 : Int)]) (S' := su S 20 0 0 0) rfl ?_
                  refine es_iret rfl rfl rfl (Or.inl rfl) ?_
                  first | exact h1 (by omega) | (exfalso; omega)
          · show Es G 62 39 [some (aR 20 (0 : Int)), some (aI m), some (aL dx), none, some (aL dy), none, some (aI t), some (aI (1 : Int))] [aI (0 : Int), aR 20 (0 : Int)] S _ _
            refine es_if rfl 46 rfl ⟨by decide, by decide⟩ (fun (g39 : ¬ (0 : Int) = (0 : Int)) => absurd g39 (by decide)) (fun (g39 : ¬ (¬ (0 : Int) = (0 : Int))) => ?_)
            refine es_sg 3 (p := ((0 : Int) = 0) ∧ (r32 (1 : Int))) (pc' := 59) (ls' := [some (aR 20 (0 : Int)), some (aI m), some (aL dx), none, some (aL dy), none, some (aI t), some (aI (1 : Int))]) (st' := []) (S' := su S 20 0 0 1) rfl ⟨rfl, ⟨by decide, by decide⟩⟩ ?_
            refine es_rg (fun hg8 => ?_)
            refine es_sg 2 (p := (0 : Int) = 0) (pc' := 63) (ls' := [some (aR 20 (0 : Int)), some (aI m), some (aL dx), none, some (aL dy), none, some (aI t), some (aI (1 : Int))]) (st' := [aI (1 : Int)]) (S' := su S 20 0 0 1) rfl rfl ?_
            refine es_if rfl 68 rfl ⟨by omega, by omega⟩ (fun (g63 : (1 : Int) = (0 : Int)) => absurd g63 (by decide)) (fun (g63 : ¬ ((1 : Int) = (0 : Int))) => ?_)
            refine es_s0 1 (pc' := 67) (ls' := [some (aR 20 (0 : Int)), some (aI m), some (aL dx), none, some (aL dy), none, some (aI t), some (aI (1 : Int))]) (st' := [aI (0 : Int)]) (S' := su S 20 0 0 1) rfl ?_
            refine es_iret rfl rfl rfl (Or.inl rfl) ?_
            first | exact t1 (by omega) | (exfalso; omega)
    · show Es G 62 12 [some (aR 20 (0 : Int)), some (aI m), some (aL dx), none, some (aL dy), none, some (aI t), none] [aI (0 : Int)] S _ _
      refine es_if rfl 30 rfl ⟨by decide, by decide⟩ (fun (g12 : (0 : Int) = (0 : Int)) => ?_) (fun (g12 : ¬ ((0 : Int) = (0 : Int))) => absurd g12 (by decide))
      refine es_s0 5 (pc' := 36) (ls' := [some (aR 20 (0 : Int)), some (aI m), some (aL dx), none, some (aL dy), none, some (aI t), some (aI (0 : Int))]) (st' := [aI m, aR 20 (0 : Int), aR 20 (0 : Int)]) (S' := S) rfl ?_
      refine es_callV rfl rfl 20 (0 : Int) [aI m] [aR 20 (0 : Int)] rfl rfl rfl rfl (Nat.le_of_ble_eq_true rfl) (Nat.le_of_ble_eq_true rfl) (Nat.le_of_ble_eq_true rfl) ?_
      refine n39 (S := S) (n := m) (by assumption) (fun hc36 => ?_) (fun hc36 => ?_)
      · show Es G 62 39 [some (aR 20 (0 : Int)), some (aI m), some (aL dx), none, some (aL dy), none, some (aI t), some (aI (0 : Int))] [aI (1 : Int), aR 20 (0 : Int)] S _ _
        refine es_if rfl 46 rfl ⟨by decide, by decide⟩ (fun (g39 : ¬ (1 : Int) = (0 : Int)) => ?_) (fun (g39 : ¬ (¬ (1 : Int) = (0 : Int))) => absurd g39 (by decide))
        refine es_s0 1 (pc' := 48) (ls' := [some (aR 20 (0 : Int)), some (aI m), some (aL dx), none, some (aL dy), none, some (aI t), some (aI (0 : Int))]) (st' := [aI (0 : Int), aR 20 (0 : Int)]) (S' := S) rfl ?_
        refine es_if rfl 55 rfl ⟨by decide, by decide⟩ (fun (g48 : (0 : Int) = (0 : Int)) => ?_) (fun (g48 : ¬ ((0 : Int) = (0 : Int))) => absurd g48 (by decide))
        refine es_sg 2 (p := ((0 : Int) = 0) ∧ (r32 (2 : Int))) (pc' := 59) (ls' := [some (aR 20 (0 : Int)), some (aI m), some (aL dx), none, some (aL dy), none, some (aI t), some (aI (0 : Int))]) (st' := []) (S' := su S 20 0 0 2) rfl ⟨rfl, ⟨by decide, by decide⟩⟩ ?_
        refine es_rg (fun hg9 => ?_)
        refine es_sg 2 (p := (0 : Int) = 0) (pc' := 63) (ls' := [some (aR 20 (0 : Int)), some (aI m), some (aL dx), none, some (aL dy), none, some (aI t), some (aI (0 : Int))]) (st' := [aI (2 : Int)]) (S' := su S 20 0 0 2) rfl rfl ?_
        refine es_if rfl 68 rfl ⟨by omega, by omega⟩ (fun (g63 : (2 : Int) = (0 : Int)) => absurd g63 (by decide)) (fun (g63 : ¬ ((2 : Int) = (0 : Int))) => ?_)
        refine es_s0 1 (pc' := 67) (ls' := [some (aR 20 (0 : Int)), some (aI m), some (aL dx), none, some (aL dy), none, some (aI t), some (aI (0 : Int))]) (st' := [aI (0 : Int)]) (S' := su S 20 0 0 2) rfl ?_
        refine es_iret rfl rfl rfl (Or.inl rfl) ?_
        first | exact t2 (by omega) | (exfalso; omega)
      · show Es G 62 39 [some (aR 20 (0 : Int)), some (aI m), some (aL dx), none, some (aL dy), none, some (aI t), some (aI (0 : Int))] [aI (0 : Int), aR 20 (0 : Int)] S _ _
        refine es_if rfl 46 rfl ⟨by decide, by decide⟩ (fun (g39 : ¬ (0 : Int) = (0 : Int)) => absurd g39 (by decide)) (fun (g39 : ¬ (¬ (0 : Int) = (0 : Int))) => ?_)
        refine es_sg 3 (p := ((0 : Int) = 0) ∧ (r32 (1 : Int))) (pc' := 59) (ls' := [some (aR 20 (0 : Int)), some (aI m), some (aL dx), none, some (aL dy), none, some (aI t), some (aI (0 : Int))]) (st' := []) (S' := su S 20 0 0 1) rfl ⟨rfl, ⟨by decide, by decide⟩⟩ ?_
        refine es_rg (fun hg10 => ?_)
        refine es_sg 2 (p := (0 : Int) = 0) (pc' := 63) (ls' := [some (aR 20 (0 : Int)), some (aI m), some (aL dx), none, some (aL dy), none, some (aI t), some (aI (0 : Int))]) (st' := [aI (1 : Int)]) (S' := su S 20 0 0 1) rfl rfl ?_
        refine es_if rfl 68 rfl ⟨by omega, by omega⟩ (fun (g63 : (1 : Int) = (0 : Int)) => absurd g63 (by decide)) (fun (g63 : ¬ ((1 : Int) = (0 : Int))) => ?_)
        refine es_s0 1 (pc' := 67) (ls' := [some (aR 20 (0 : Int)), some (aI m), some (aL dx), none, some (aL dy), none, some (aI t), some (aI (0 : Int))]) (st' := [aI (0 : Int)]) (S' := su S 20 0 0 1) rfl ?_
        refine es_iret rfl rfl rfl (Or.inl rfl) ?_
        first | exact t1 (by omega) | (exfalso; omega)
  · show Es G 62 4 [some (aR 20 (0 : Int)), some (aI m), some (aL dx), none, some (aL dy), none, some (aI t), none] [aI (0 : Int)] S _ _
    refine es_if rfl 30 rfl ⟨by decide, by decide⟩ (fun (g4 : (0 : Int) = (0 : Int)) => ?_) (fun (g4 : ¬ ((0 : Int) = (0 : Int))) => absurd g4 (by decide))
    refine es_s0 5 (pc' := 36) (ls' := [some (aR 20 (0 : Int)), some (aI m), some (aL dx), none, some (aL dy), none, some (aI t), some (aI (0 : Int))]) (st' := [aI m, aR 20 (0 : Int), aR 20 (0 : Int)]) (S' := S) rfl ?_
    refine es_callV rfl rfl 20 (0 : Int) [aI m] [aR 20 (0 : Int)] rfl rfl rfl rfl (Nat.le_of_ble_eq_true rfl) (Nat.le_of_ble_eq_true rfl) (Nat.le_of_ble_eq_true rfl) ?_
    refine n39 (S := S) (n := m) (by assumption) (fun hc36 => ?_) (fun hc36 => ?_)
    · show Es G 62 39 [some (aR 20 (0 : Int)), some (aI m), some (aL dx), none, some (aL dy), none, some (aI t), some (aI (0 : Int))] [aI (1 : Int), aR 20 (0 : Int)] S _ _
      refine es_if rfl 46 rfl ⟨by decide, by decide⟩ (fun (g39 : ¬ (1 : Int) = (0 : Int)) => ?_) (fun (g39 : ¬ (¬ (1 : Int) = (0 : Int))) => absurd g39 (by decide))
      refine es_s0 1 (pc' := 48) (ls' := [some (aR 20 (0 : Int)), some (aI m), some (aL dx), none, some (aL dy), none, some (aI t), some (aI (0 : Int))]) (st' := [aI (0 : Int), aR 20 (0 : Int)]) (S' := S) rfl ?_
      refine es_if rfl 55 rfl ⟨by decide, by decide⟩ (fun (g48 : (0 : Int) = (0 : Int)) => ?_) (fun (g48 : ¬ ((0 : Int) = (0 : Int))) => absurd g48 (by decide))
      refine es_sg 2 (p := ((0 : Int) = 0) ∧ (r32 (2 : Int))) (pc' := 59) (ls' := [some (aR 20 (0 : Int)), some (aI m), some (aL dx), none, some (aL dy), none, some (aI t), some (aI (0 : Int))]) (st' := []) (S' := su S 20 0 0 2) rfl ⟨rfl, ⟨by decide, by decide⟩⟩ ?_
      refine es_rg (fun hg11 => ?_)
      refine es_sg 2 (p := (0 : Int) = 0) (pc' := 63) (ls' := [some (aR 20 (0 : Int)), some (aI m), some (aL dx), none, some (aL dy), none, some (aI t), some (aI (0 : Int))]) (st' := [aI (2 : Int)]) (S' := su S 20 0 0 2) rfl rfl ?_
      refine es_if rfl 68 rfl ⟨by omega, by omega⟩ (fun (g63 : (2 : Int) = (0 : Int)) => absurd g63 (by decide)) (fun (g63 : ¬ ((2 : Int) = (0 : Int))) => ?_)
      refine es_s0 1 (pc' := 67) (ls' := [some (aR 20 (0 : Int)), some (aI m), some (aL dx), none, some (aL dy), none, some (aI t), some (aI (0 : Int))]) (st' := [aI (0 : Int)]) (S' := su S 20 0 0 2) rfl ?_
      refine es_iret rfl rfl rfl (Or.inl rfl) ?_
      first | exact t2 (by omega) | (exfalso; omega)
    · show Es G 62 39 [some (aR 20 (0 : Int)), some (aI m), some (aL dx), none, some (aL dy), none, some (aI t), some (aI (0 : Int))] [aI (0 : Int), aR 20 (0 : Int)] S _ _
      refine es_if rfl 46 rfl ⟨by decide, by decide⟩ (fun (g39 : ¬ (0 : Int) = (0 : Int)) => absurd g39 (by decide)) (fun (g39 : ¬ (¬ (0 : Int) = (0 : Int))) => ?_)
      refine es_sg 3 (p := ((0 : Int) = 0) ∧ (r32 (1 : Int))) (pc' := 59) (ls' := [some (aR 20 (0 : Int)), some (aI m), some (aL dx), none, some (aL dy), none, some (aI t), some (aI (0 : Int))]) (st' := []) (S' := su S 20 0 0 1) rfl ⟨rfl, ⟨by decide, by decide⟩⟩ ?_
      refine es_rg (fun hg12 => ?_)
      refine es_sg 2 (p := (0 : Int) = 0) (pc' := 63) (ls' := [some (aR 20 (0 : Int)), some (aI m), some (aL dx), none, some (aL dy), none, some (aI t), some (aI (0 : Int))]) (st' := [aI (1 : Int)]) (S' := su S 20 0 0 1) rfl rfl ?_
      refine es_if rfl 68 rfl ⟨by omega, by omega⟩ (fun (g63 : (1 : Int) = (0 : Int)) => absurd g63 (by decide)) (fun (g63 : ¬ ((1 : Int) = (0 : Int))) => ?_)
      refine es_s0 1 (pc' := 67) (ls' := [some (aR 20 (0 : Int)), some (aI m), some (aL dx), none, some (aL dy), none, some (aI t), some (aI (0 : Int))]) (st' := [aI (0 : Int)]) (S' := su S 20 0 0 1) rfl ?_
      refine es_iret rfl rfl rfl (Or.inl rfl) ?_
      first | exact t1 (by omega) | (exfalso; omega)
section S70
variable {A : Sg} {c r : Int}
theorem step_full (h : CI A) (hc : 0 ≤ c ∧ c < A 0 0 6) (hr : 0 ≤ r ∧ r < 20) (ho : A 3 c r = -1) (hn : A 0 0 5 = 60) : stepA A c r = (A, 0) := by
  unfold stepA
  split
  · unfold cpS
    rw [if_neg (by omega), if_neg (by omega)]
  · rfl
theorem step_mv (h : CI A) (hc : 0 ≤ c ∧ c < A 0 0 6) (hr : 0 ≤ r ∧ r < 20) (hm2 : 0 ≤ A 2 c 0 ∧ A 2 c 0 < A 0 0 6) (hx : 0 ≤ A 3 (A 2 c 0) r ∧ A 3 (A 2 c 0) r < A 0 0 5) (ho : 0 ≤ A 3 c r ∧ A 3 c r < A 0 0 5) (hh : A 1 (A 3 c r) 7 = 0) : stepA A c r = (fMv A (A 3 c r) (pX A c (A 3 (A 2 c 0) r)) (pY A c (A 3 (A 2 c 0) r)) (pT A c (A 3 (A 2 c 0) r)), if A 1 (A 3 c r) 2 = pX A c (A 3 (A 2 c 0) r) ∧ A 1 (A 3 c r) 3 = pY A c (A 3 (A 2 c 0) r) ∧ A 1 (A 3 c r) 4 = pT A c (A 3 (A 2 c 0) r) then 0 else 1) := by
  conv => lhs; unfold stepA
  rw [if_pos ⟨hm2, hx⟩]
  conv => lhs; unfold cpS
  rw [if_pos ho, if_pos hh]
theorem step_tell (h : CI A) (hc : 0 ≤ c ∧ c < A 0 0 6) (hr : 0 ≤ r ∧ r < 20) (hm2 : 0 ≤ A 2 c 0 ∧ A 2 c 0 < A 0 0 6) (hx : 0 ≤ A 3 (A 2 c 0) r ∧ A 3 (A 2 c 0) r < A 0 0 5) (ho : 0 ≤ A 3 c r ∧ A 3 c r < A 0 0 5) (hh : ¬ A 1 (A 3 c r) 7 = 0) : stepA A c r = (if A 1 (A 3 c r) 2 = pX A c (A 3 (A 2 c 0) r) ∧ A 1 (A 3 c r) 3 = pY A c (A 3 (A 2 c 0) r) ∧ A 1 (A 3 c r) 4 = pT A c (A 3 (A 2 c 0) r) then A else su A 0 0 8 (lOr (A 0 0 8) (lShl 1 (A 3 c r))), 0) := by
  conv => lhs; unfold stepA
  rw [if_pos ⟨hm2, hx⟩]
  conv => lhs; unfold cpS
  rw [if_pos ho, if_neg hh]
end S70
theorem n70 {G : Gw} {S : Sg} {k : Nat} {Q : AQ} {A : Sg} (hA : CI A) (hR : RR A S) {c r : Int} (hc : 0 ≤ c ∧ c < A 0 0 6) (hr : 0 ≤ r ∧ r < 20) (hm2 : 0 ≤ A 2 c 0 ∧ A 2 c 0 < A 0 0 6) (hT : TT A c r) (h : ∀ S' : Sg, RR (stepA A c r).1 S' → Fc S S' → Q (.inl (some (aI (stepA A c r).2))) S') : Es G 70 0 (aEnt 5 [aR 20 (0 : Int), aI c, aI (A 3 (A 2 c 0) r), aI r]) [] S (k + 3) Q := by
  have n1 := hA.1.1
  have n2 := hA.1.2.1
  have n3 := hA.1.2.2
  have e1 : S 20 0 1 = A 0 0 5 := hR.1.1
  have e10 : S 20 0 10 = A 0 0 6 := hR.1.2.1
  have e17 : S 20 0 17 = A 0 0 7 := hR.1.2.2
  have hlk := (hA.2.2.2.1 (A 2 c 0) r hm2.1 (by omega) hr.1 hr.2).1
  have hown := (hA.2.2.2.1 c r hc.1 (by omega) hr.1 hr.2).1
  refine es_rg (fun hg1 => ?_)
  refine es_s0 2 (pc' := 2) (ls' := [some (aR 20 (0 : Int)), some (aI c), some (aI (A 3 (A 2 c 0) r)), some (aI r), none]) (st' := [aI (-1 : Int), aI (A 3 (A 2 c 0) r)]) (S' := S) rfl ?_
  refine es_icmp rfl 7 rfl ⟨by omega, by omega⟩ ⟨by decide, by decide⟩ (fun (g2 : ¬ (A 3 (A 2 c 0) r) = (-1 : Int)) => ?_) (fun (g2 : ¬ (¬ (A 3 (A 2 c 0) r) = (-1 : Int))) => ?_)
  · have hv : 0 ≤ A 3 (A 2 c 0) r ∧ A 3 (A 2 c 0) r < A 0 0 5 := by omega
    have hor := hA.orig (c := c) (r := r) (by omega) hr ⟨hm2, hv⟩
    have hnear := hor.2
    have hpb := pose_b (c := c) (hA.2.2.1 c hc.1 (by omega)).1 hor.1 hnear
    refine es_s0 3 (pc' := 10) (ls' := [some (aR 20 (0 : Int)), some (aI c), some (aI (A 3 (A 2 c 0) r)), some (aI r), none]) (st' := [aI r, aI c, aR 20 (0 : Int)]) (S' := S) rfl ?_
    refine es_callV rfl rfl 20 (0 : Int) [aI c, aI r] [] rfl rfl rfl rfl (Nat.le_of_ble_eq_true rfl) (Nat.le_of_ble_eq_true rfl) (Nat.le_of_ble_eq_true rfl) ?_
    refine n40 (S := S) (A := A) hA hR (c := c) (r := r) (by omega) (by omega) ?_
    show Es G 70 13 [some (aR 20 (0 : Int)), some (aI c), some (aI (A 3 (A 2 c 0) r)), some (aI r), none] [aI (A 3 c r)] S _ _
    refine es_s0 3 (pc' := 18) (ls' := [some (aR 20 (0 : Int)), some (aI c), some (aI (A 3 (A 2 c 0) r)), some (aI r), some (aI (A 3 c r))]) (st' := [aI (-1 : Int), aI (A 3 c r)]) (S' := S) rfl ?_
    refine es_icmp rfl 40 rfl ⟨by omega, by omega⟩ ⟨by decide, by decide⟩ (fun (g18 : ¬ (A 3 c r) = (-1 : Int)) => ?_) (fun (g18 : ¬ (¬ (A 3 c r) = (-1 : Int))) => ?_)
    · have hov : 0 ≤ A 3 c r ∧ A 3 c r < A 0 0 5 := by omega
      obtain ⟨a1, a2, a3, a4, a5, a6⟩ := hR.2.1 (A 3 c r) hov.1 (by omega)
      have z4 : su (su (su S 20 0 23 (pX A c (A 3 (A 2 c 0) r))) 20 0 24 (pY A c (A 3 (A 2 c 0) r))) 20 0 25 (pT A c (A 3 (A 2 c 0) r)) 24 0 (A 3 c r) = S 24 0 (A 3 c r) := rfl
      have z5 : su (su (su S 20 0 23 (pX A c (A 3 (A 2 c 0) r))) 20 0 24 (pY A c (A 3 (A 2 c 0) r))) 20 0 25 (pT A c (A 3 (A 2 c 0) r)) 25 0 (A 3 c r) = S 25 0 (A 3 c r) := rfl
      have z6 : su (su (su S 20 0 23 (pX A c (A 3 (A 2 c 0) r))) 20 0 24 (pY A c (A 3 (A 2 c 0) r))) 20 0 25 (pT A c (A 3 (A 2 c 0) r)) 26 0 (A 3 c r) = S 26 0 (A 3 c r) := rfl
      refine es_s0 3 (pc' := 43) (ls' := [some (aR 20 (0 : Int)), some (aI c), some (aI (A 3 (A 2 c 0) r)), some (aI r), some (aI (A 3 c r))]) (st' := [aI (A 3 (A 2 c 0) r), aI c, aR 20 (0 : Int)]) (S' := S) rfl ?_
      refine es_callV rfl rfl 20 (0 : Int) [aI c, aI (A 3 (A 2 c 0) r)] [] rfl rfl rfl rfl (Nat.le_of_ble_eq_true rfl) (Nat.le_of_ble_eq_true rfl) (Nat.le_of_ble_eq_true rfl) ?_
      refine n59 (S := S) (A := A) hA hR (c := c) (o := (A 3 (A 2 c 0) r)) (by omega) (by omega) hnear ?_
      show Es G 70 46 [some (aR 20 (0 : Int)), some (aI c), some (aI (A 3 (A 2 c 0) r)), some (aI r), some (aI (A 3 c r))] [] (su (su (su S 20 0 23 (pX A c (A 3 (A 2 c 0) r))) 20 0 24 (pY A c (A 3 (A 2 c 0) r))) 20 0 25 (pT A c (A 3 (A 2 c 0) r))) _ _
      refine es_rg (fun hg2 => ?_)
      refine es_sg 4 (p := ((0 : Int) = 0) ∧ (((0 : Int) = 0) ∧ (0 ≤ (A 3 c r) ∧ (A 3 c r) < 60))) (pc' := 53) (ls' := [some (aR 20 (0 : Int)), some (aI c), some (aI (A 3 (A 2 c 0) r)), some (aI r), some (aI (A 3 c r))]) (st' := [aI (S 29 0 (A 3 c r))]) (S' := su (su (su S 20 0 23 (pX A c (A 3 (A 2 c 0) r))) 20 0 24 (pY A c (A 3 (A 2 c 0) r))) 20 0 25 (pT A c (A 3 (A 2 c 0) r))) rfl ⟨rfl, ⟨rfl, (by omega)⟩⟩ ?_
      refine es_if rfl 75 rfl (r32_z (rgZ hg1 (t := 29) (i := (0 : Int)) (q := (A 3 c r)) (by omega : 0 ≤ (0 : Int) ∧ (0 : Int) < 1) (by omega) rfl)) (fun (g53 : ¬ (S 29 0 (A 3 c r)) = (0 : Int)) => ?_) (fun (g53 : ¬ (¬ (S 29 0 (A 3 c r)) = (0 : Int))) => ?_)
      · refine es_sg 6 (p := ((0 : Int) = 0) ∧ ((0 : Int) = 0)) (pc' := 87) (ls' := [some (aR 20 (0 : Int)), some (aI c), some (aI (A 3 (A 2 c 0) r)), some (aI r), some (aI (A 3 c r))]) (st' := [aI (A 3 c r), aR 24 (0 : Int), aI (A 3 c r), aR 36 (0 : Int)]) (S' := su (su (su S 20 0 23 (pX A c (A 3 (A 2 c 0) r))) 20 0 24 (pY A c (A 3 (A 2 c 0) r))) 20 0 25 (pT A c (A 3 (A 2 c 0) r))) rfl ⟨rfl, rfl⟩ ?_
        refine es_sg 3 (p := (((0 : Int) = 0) ∧ (0 ≤ (A 3 c r) ∧ (A 3 c r) < 60)) ∧ ((0 : Int) = 0)) (pc' := 92) (ls' := [some (aR 20 (0 : Int)), some (aI c), some (aI (A 3 (A 2 c 0) r)), some (aI r), some (aI (A 3 c r))]) (st' := [aL (pX A c (A 3 (A 2 c 0) r)), aL (S 24 0 (A 3 c r)), aI (A 3 c r), aR 36 (0 : Int)]) (S' := su (su (su S 20 0 23 (pX A c (A 3 (A 2 c 0) r))) 20 0 24 (pY A c (A 3 (A 2 c 0) r))) 20 0 25 (pT A c (A 3 (A 2 c 0) r))) rfl ⟨⟨rfl, (by omega)⟩, rfl⟩ ?_
        refine es_lif rfl rfl 125 rfl (rgL hg1 (t := 24) (i := (0 : Int)) (q := (A 3 c r)) (by omega : 0 ≤ (0 : Int) ∧ (0 : Int) < 1) (by omega) rfl) ⟨by omega, by omega⟩ (fun (g92 : ¬ (S 24 0 (A 3 c r)) = (pX A c (A 3 (A 2 c 0) r))) => ?_) (fun (g92 : ¬ (¬ (S 24 0 (A 3 c r)) = (pX A c (A 3 (A 2 c 0) r)))) => ?_)
        · refine es_sg 3 (p := (((0 : Int) = 0) ∧ (0 ≤ (A 3 c r) ∧ (A 3 c r) < 60)) ∧ ((1 : Int) = 0 ∨ (1 : Int) = 1)) (pc' := 131) (ls' := [some (aR 20 (0 : Int)), some (aI c), some (aI (A 3 (A 2 c 0) r)), some (aI r), some (aI (A 3 c r))]) (st' := []) (S' := su (su (su (su S 20 0 23 (pX A c (A 3 (A 2 c 0) r))) 20 0 24 (pY A c (A 3 (A 2 c 0) r))) 20 0 25 (pT A c (A 3 (A 2 c 0) r))) 36 0 (A 3 c r) 1) rfl ⟨⟨rfl, (by omega)⟩, (by decide)⟩ ?_
          refine es_rg (fun hg3 => ?_)
          refine es_s0 1 (pc' := 132) (ls' := [some (aR 20 (0 : Int)), some (aI c), some (aI (A 3 (A 2 c 0) r)), some (aI r), some (aI (A 3 c r))]) (st' := [aI (0 : Int)]) (S' := su (su (su (su S 20 0 23 (pX A c (A 3 (A 2 c 0) r))) 20 0 24 (pY A c (A 3 (A 2 c 0) r))) 20 0 25 (pT A c (A 3 (A 2 c 0) r))) 36 0 (A 3 c r) 1) rfl ?_
          refine es_iret rfl rfl rfl (Or.inr ⟨rfl, (by decide)⟩) ?_
          have q := step_tell hA hc hr hm2 (by omega) (by omega) (by omega)
          rw [q, if_neg (by omega)] at h
          exact h _ (RR.told (((hR.ob (by decide) (by decide) (by decide)).ob (by decide) (by decide) (by decide)).ob (by decide) (by decide) (by decide)) (by omega)) (((((Fc.rf _).puto (by decide)).puto (by decide)).puto (by decide)).put (by decide))
        · refine es_sg 6 (p := ((0 : Int) = 0) ∧ ((((0 : Int) = 0) ∧ (0 ≤ (A 3 c r) ∧ (A 3 c r) < 60)) ∧ ((0 : Int) = 0))) (pc' := 107) (ls' := [some (aR 20 (0 : Int)), some (aI c), some (aI (A 3 (A 2 c 0) r)), some (aI r), some (aI (A 3 c r))]) (st' := [aL (pY A c (A 3 (A 2 c 0) r)), aL (S 25 0 (A 3 c r)), aI (A 3 c r), aR 36 (0 : Int)]) (S' := su (su (su S 20 0 23 (pX A c (A 3 (A 2 c 0) r))) 20 0 24 (pY A c (A 3 (A 2 c 0) r))) 20 0 25 (pT A c (A 3 (A 2 c 0) r))) rfl ⟨rfl, ⟨rfl, (by omega)⟩, rfl⟩ ?_
          refine es_lif rfl rfl 125 rfl (rgL hg1 (t := 25) (i := (0 : Int)) (q := (A 3 c r)) (by omega : 0 ≤ (0 : Int) ∧ (0 : Int) < 1) (by omega) rfl) ⟨by omega, by omega⟩ (fun (g107 : ¬ (S 25 0 (A 3 c r)) = (pY A c (A 3 (A 2 c 0) r))) => ?_) (fun (g107 : ¬ (¬ (S 25 0 (A 3 c r)) = (pY A c (A 3 (A 2 c 0) r)))) => ?_)
          · refine es_sg 3 (p := (((0 : Int) = 0) ∧ (0 ≤ (A 3 c r) ∧ (A 3 c r) < 60)) ∧ ((1 : Int) = 0 ∨ (1 : Int) = 1)) (pc' := 131) (ls' := [some (aR 20 (0 : Int)), some (aI c), some (aI (A 3 (A 2 c 0) r)), some (aI r), some (aI (A 3 c r))]) (st' := []) (S' := su (su (su (su S 20 0 23 (pX A c (A 3 (A 2 c 0) r))) 20 0 24 (pY A c (A 3 (A 2 c 0) r))) 20 0 25 (pT A c (A 3 (A 2 c 0) r))) 36 0 (A 3 c r) 1) rfl ⟨⟨rfl, (by omega)⟩, (by decide)⟩ ?_
            refine es_rg (fun hg4 => ?_)
            refine es_s0 1 (pc' := 132) (ls' := [some (aR 20 (0 : Int)), some (aI c), some (aI (A 3 (A 2 c 0) r)), some (aI r), some (aI (A 3 c r))]) (st' := [aI (0 : Int)]) (S' := su (su (su (su S 20 0 23 (pX A c (A 3 (A 2 c 0) r))) 20 0 24 (pY A c (A 3 (A 2 c 0) r))) 20 0 25 (pT A c (A 3 (A 2 c 0) r))) 36 0 (A 3 c r) 1) rfl ?_
            refine es_iret rfl rfl rfl (Or.inr ⟨rfl, (by decide)⟩) ?_
            have q := step_tell hA hc hr hm2 (by omega) (by omega) (by omega)
            rw [q, if_neg (by omega)] at h
            exact h _ (RR.told (((hR.ob (by decide) (by decide) (by decide)).ob (by decide) (by decide) (by decide)).ob (by decide) (by decide) (by decide)) (by omega)) (((((Fc.rf _).puto (by decide)).puto (by decide)).puto (by decide)).put (by decide))
          · refine es_sg 6 (p := ((0 : Int) = 0) ∧ ((((0 : Int) = 0) ∧ (0 ≤ (A 3 c r) ∧ (A 3 c r) < 60)) ∧ ((0 : Int) = 0))) (pc' := 122) (ls' := [some (aR 20 (0 : Int)), some (aI c), some (aI (A 3 (A 2 c 0) r)), some (aI r), some (aI (A 3 c r))]) (st' := [aI (pT A c (A 3 (A 2 c 0) r)), aI (S 26 0 (A 3 c r)), aI (A 3 c r), aR 36 (0 : Int)]) (S' := su (su (su S 20 0 23 (pX A c (A 3 (A 2 c 0) r))) 20 0 24 (pY A c (A 3 (A 2 c 0) r))) 20 0 25 (pT A c (A 3 (A 2 c 0) r))) rfl ⟨rfl, ⟨rfl, (by omega)⟩, rfl⟩ ?_
            refine es_icmp rfl 129 rfl (rgI hg1 (t := 26) (i := (0 : Int)) (q := (A 3 c r)) (by omega : 0 ≤ (0 : Int) ∧ (0 : Int) < 1) (by omega) rfl) ⟨by omega, by omega⟩ (fun (g122 : (S 26 0 (A 3 c r)) = (pT A c (A 3 (A 2 c 0) r))) => ?_) (fun (g122 : ¬ ((S 26 0 (A 3 c r)) = (pT A c (A 3 (A 2 c 0) r)))) => ?_)
            · refine es_sg 2 (p := (((0 : Int) = 0) ∧ (0 ≤ (A 3 c r) ∧ (A 3 c r) < 60)) ∧ ((0 : Int) = 0 ∨ (0 : Int) = 1)) (pc' := 131) (ls' := [some (aR 20 (0 : Int)), some (aI c), some (aI (A 3 (A 2 c 0) r)), some (aI r), some (aI (A 3 c r))]) (st' := []) (S' := su (su (su (su S 20 0 23 (pX A c (A 3 (A 2 c 0) r))) 20 0 24 (pY A c (A 3 (A 2 c 0) r))) 20 0 25 (pT A c (A 3 (A 2 c 0) r))) 36 0 (A 3 c r) 0) rfl ⟨⟨rfl, (by omega)⟩, (by decide)⟩ ?_
              refine es_rg (fun hg5 => ?_)
              refine es_s0 1 (pc' := 132) (ls' := [some (aR 20 (0 : Int)), some (aI c), some (aI (A 3 (A 2 c 0) r)), some (aI r), some (aI (A 3 c r))]) (st' := [aI (0 : Int)]) (S' := su (su (su (su S 20 0 23 (pX A c (A 3 (A 2 c 0) r))) 20 0 24 (pY A c (A 3 (A 2 c 0) r))) 20 0 25 (pT A c (A 3 (A 2 c 0) r))) 36 0 (A 3 c r) 0) rfl ?_
              refine es_iret rfl rfl rfl (Or.inr ⟨rfl, (by decide)⟩) ?_
              have q := step_tell hA hc hr hm2 (by omega) (by omega) (by omega)
              rw [q, if_pos (by omega)] at h
              exact h _ (RR.untold (((hR.ob (by decide) (by decide) (by decide)).ob (by decide) (by decide) (by decide)).ob (by decide) (by decide) (by decide)) (by omega) (hT c r hc.1 (by omega) hr.1 hr.2 (by omega) (by omega))) (((((Fc.rf _).puto (by decide)).puto (by decide)).puto (by decide)).put (by decide))
            · refine es_sg 3 (p := (((0 : Int) = 0) ∧ (0 ≤ (A 3 c r) ∧ (A 3 c r) < 60)) ∧ ((1 : Int) = 0 ∨ (1 : Int) = 1)) (pc' := 131) (ls' := [some (aR 20 (0 : Int)), some (aI c), some (aI (A 3 (A 2 c 0) r)), some (aI r), some (aI (A 3 c r))]) (st' := []) (S' := su (su (su (su S 20 0 23 (pX A c (A 3 (A 2 c 0) r))) 20 0 24 (pY A c (A 3 (A 2 c 0) r))) 20 0 25 (pT A c (A 3 (A 2 c 0) r))) 36 0 (A 3 c r) 1) rfl ⟨⟨rfl, (by omega)⟩, (by decide)⟩ ?_
              refine es_rg (fun hg6 => ?_)
              refine es_s0 1 (pc' := 132) (ls' := [some (aR 20 (0 : Int)), some (aI c), some (aI (A 3 (A 2 c 0) r)), some (aI r), some (aI (A 3 c r))]) (st' := [aI (0 : Int)]) (S' := su (su (su (su S 20 0 23 (pX A c (A 3 (A 2 c 0) r))) 20 0 24 (pY A c (A 3 (A 2 c 0) r))) 20 0 25 (pT A c (A 3 (A 2 c 0) r))) 36 0 (A 3 c r) 1) rfl ?_
              refine es_iret rfl rfl rfl (Or.inr ⟨rfl, (by decide)⟩) ?_
              have q := step_tell hA hc hr hm2 (by omega) (by omega) (by omega)
              rw [q, if_neg (by omega)] at h
              exact h _ (RR.told (((hR.ob (by decide) (by decide) (by decide)).ob (by decide) (by decide) (by decide)).ob (by decide) (by decide) (by decide)) (by omega)) (((((Fc.rf _).puto (by decide)).puto (by decide)).puto (by decide)).put (by decide))
      · refine es_sg 6 (p := ((0 : Int) = 0) ∧ ((0 : Int) = 0)) (pc' := 67) (ls' := [some (aR 20 (0 : Int)), some (aI c), some (aI (A 3 (A 2 c 0) r)), some (aI r), some (aI (A 3 c r))]) (st' := [aL (pY A c (A 3 (A 2 c 0) r)), aL (pX A c (A 3 (A 2 c 0) r)), aI (A 3 c r), aR 20 (0 : Int)]) (S' := su (su (su S 20 0 23 (pX A c (A 3 (A 2 c 0) r))) 20 0 24 (pY A c (A 3 (A 2 c 0) r))) 20 0 25 (pT A c (A 3 (A 2 c 0) r))) rfl ⟨rfl, rfl⟩ ?_
        refine es_sg 2 (p := (0 : Int) = 0) (pc' := 71) (ls' := [some (aR 20 (0 : Int)), some (aI c), some (aI (A 3 (A 2 c 0) r)), some (aI r), some (aI (A 3 c r))]) (st' := [aI (pT A c (A 3 (A 2 c 0) r)), aL (pY A c (A 3 (A 2 c 0) r)), aL (pX A c (A 3 (A 2 c 0) r)), aI (A 3 c r), aR 20 (0 : Int)]) (S' := su (su (su S 20 0 23 (pX A c (A 3 (A 2 c 0) r))) 20 0 24 (pY A c (A 3 (A 2 c 0) r))) 20 0 25 (pT A c (A 3 (A 2 c 0) r))) rfl rfl ?_
        refine es_callV rfl rfl 20 (0 : Int) [aI (A 3 c r), aL (pX A c (A 3 (A 2 c 0) r)), aL (pY A c (A 3 (A 2 c 0) r)), aI (pT A c (A 3 (A 2 c 0) r))] [] rfl rfl rfl rfl (Nat.le_of_ble_eq_true rfl) (Nat.le_of_ble_eq_true rfl) (Nat.le_of_ble_eq_true rfl) ?_
        refine n27 (S := su (su (su S 20 0 23 (pX A c (A 3 (A 2 c 0) r))) 20 0 24 (pY A c (A 3 (A 2 c 0) r))) 20 0 25 (pT A c (A 3 (A 2 c 0) r))) (i := (A 3 c r)) (x := (pX A c (A 3 (A 2 c 0) r))) (y := (pY A c (A 3 (A 2 c 0) r))) (t := (pT A c (A 3 (A 2 c 0) r))) (by omega) ⟨by omega, by omega⟩ ⟨by omega, by omega⟩ ⟨by omega, by omega⟩ (fun hc71 => ?_) (fun hc71 => ?_)
        · show Es G 70 74 [some (aR 20 (0 : Int)), some (aI c), some (aI (A 3 (A 2 c 0) r)), some (aI r), some (aI (A 3 c r))] [aI (1 : Int)] (su (su (su (su (su (su S 20 0 23 (pX A c (A 3 (A 2 c 0) r))) 20 0 24 (pY A c (A 3 (A 2 c 0) r))) 20 0 25 (pT A c (A 3 (A 2 c 0) r))) 24 0 (A 3 c r) (pX A c (A 3 (A 2 c 0) r))) 25 0 (A 3 c r) (pY A c (A 3 (A 2 c 0) r))) 26 0 (A 3 c r) (pT A c (A 3 (A 2 c 0) r))) _ _
          refine es_rg (fun hg7 => ?_)
          refine es_iret rfl rfl rfl (Or.inr ⟨rfl, (by decide)⟩) ?_
          have q := step_mv hA hc hr hm2 (by omega) (by omega) (by omega)
          rw [q] at h
          first
            | (rw [if_neg (by omega)] at h; exact h _ (RR.mv (((hR.ob (by decide) (by decide) (by decide)).ob (by decide) (by decide) (by decide)).ob (by decide) (by decide) (by decide))) (((((((Fc.rf _).puto (by decide)).puto (by decide)).puto (by decide)).put (by decide)).put (by decide)).put (by decide)))
            | (rw [if_pos (by omega)] at h; exact h _ (RR.mv (((hR.ob (by decide) (by decide) (by decide)).ob (by decide) (by decide) (by decide)).ob (by decide) (by decide) (by decide))) (((((((Fc.rf _).puto (by decide)).puto (by decide)).puto (by decide)).put (by decide)).put (by decide)).put (by decide)))
        · show Es G 70 74 [some (aR 20 (0 : Int)), some (aI c), some (aI (A 3 (A 2 c 0) r)), some (aI r), some (aI (A 3 c r))] [aI (0 : Int)] (su (su (su (su (su (su S 20 0 23 (pX A c (A 3 (A 2 c 0) r))) 20 0 24 (pY A c (A 3 (A 2 c 0) r))) 20 0 25 (pT A c (A 3 (A 2 c 0) r))) 24 0 (A 3 c r) (pX A c (A 3 (A 2 c 0) r))) 25 0 (A 3 c r) (pY A c (A 3 (A 2 c 0) r))) 26 0 (A 3 c r) (pT A c (A 3 (A 2 c 0) r))) _ _
          refine es_rg (fun hg8 => ?_)
          refine es_iret rfl rfl rfl (Or.inr ⟨rfl, (by decide)⟩) ?_
          have q := step_mv hA hc hr hm2 (by omega) (by omega) (by omega)
          rw [q] at h
          first
            | (rw [if_neg (by omega)] at h; exact h _ (RR.mv (((hR.ob (by decide) (by decide) (by decide)).ob (by decide) (by decide) (by decide)).ob (by decide) (by decide) (by decide))) (((((((Fc.rf _).puto (by decide)).puto (by decide)).puto (by decide)).put (by decide)).put (by decide)).put (by decide)))
            | (rw [if_pos (by omega)] at h; exact h _ (RR.mv (((hR.ob (by decide) (by decide) (by decide)).ob (by decide) (by decide) (by decide)).ob (by decide) (by decide) (by decide))) (((((((Fc.rf _).puto (by decide)).puto (by decide)).puto (by decide)).put (by decide)).put (by decide)).put (by decide)))
    · refine es_sg 3 (p := (0 : Int) = 0) (pc' := 27) (ls' := [some (aR 20 (0 : Int)), some (aI c), some (aI (A 3 (A 2 c 0) r)), some (aI r), some (aI (A 3 c r))]) (st' := [aI (60 : Int), aI (S 20 0 1)]) (S' := S) rfl rfl ?_
      refine es_icmp rfl 32 rfl (rgI hg1 (t := 20) (i := (0 : Int)) (q := (1 : Int)) (by omega : 0 ≤ (0 : Int) ∧ (0 : Int) < 1) (by omega) rfl) ⟨by decide, by decide⟩ (fun (g27 : ¬ (S 20 0 1) = (60 : Int)) => ?_) (fun (g27 : ¬ (¬ (S 20 0 1) = (60 : Int))) => ?_)
      · refine es_s0 3 (pc' := 35) (ls' := [some (aR 20 (0 : Int)), some (aI c), some (aI (A 3 (A 2 c 0) r)), some (aI r), some (aI (A 3 c r))]) (st' := [aI (A 3 (A 2 c 0) r), aI c, aR 20 (0 : Int)]) (S' := S) rfl ?_
        refine es_callV rfl rfl 20 (0 : Int) [aI c, aI (A 3 (A 2 c 0) r)] [] rfl rfl rfl rfl (Nat.le_of_ble_eq_true rfl) (Nat.le_of_ble_eq_true rfl) (Nat.le_of_ble_eq_true rfl) ?_
        refine n60 (S := S) (A := A) hA hR (c := c) (o := (A 3 (A 2 c 0) r)) (by omega) (by omega) hnear (by omega) (fun S1 j1 j2 => ?_)
        show Es G 70 38 [some (aR 20 (0 : Int)), some (aI c), some (aI (A 3 (A 2 c 0) r)), some (aI r), some (aI (A 3 c r))] [] S1 _ _
        refine es_rg (fun hg9 => ?_)
        refine es_s0 1 (pc' := 39) (ls' := [some (aR 20 (0 : Int)), some (aI c), some (aI (A 3 (A 2 c 0) r)), some (aI r), some (aI (A 3 c r))]) (st' := [aI (1 : Int)]) (S' := S1) rfl ?_
        refine es_iret rfl rfl rfl (Or.inr ⟨rfl, (by decide)⟩) ?_
        have hst := step_new hA hc rfl hm2 hr (by omega) (by omega) (by omega)
        have hro : A 1 (A 3 (A 2 c 0) r) 6 = r := by
          rcases hlk with g | g
          · omega
          · exact g.2.2
        rw [hro] at j1
        rw [hst] at h
        exact h S1 j1 j2
      · refine es_s0 1 (pc' := 31) (ls' := [some (aR 20 (0 : Int)), some (aI c), some (aI (A 3 (A 2 c 0) r)), some (aI r), some (aI (A 3 c r))]) (st' := [aI (0 : Int)]) (S' := S) rfl ?_
        refine es_iret rfl rfl rfl (Or.inr ⟨rfl, (by decide)⟩) ?_
        first
          | (rw [step_none rfl (by omega)] at h; exact h S hR (Fc.rf S))
          | (have q : stepA A c r = (A, 0) := step_full hA hc hr (by omega) (by omega); rw [q] at h; exact h S hR (Fc.rf S))
  · refine es_s0 1 (pc' := 6) (ls' := [some (aR 20 (0 : Int)), some (aI c), some (aI (A 3 (A 2 c 0) r)), some (aI r), none]) (st' := [aI (0 : Int)]) (S' := S) rfl ?_
    refine es_iret rfl rfl rfl (Or.inr ⟨rfl, (by decide)⟩) ?_
    first
      | (rw [step_none rfl (by omega)] at h; exact h S hR (Fc.rf S))
      | (have q : stepA A c r = (A, 0) := step_full hA hc hr (by omega) (by omega); rw [q] at h; exact h S hR (Fc.rf S))
