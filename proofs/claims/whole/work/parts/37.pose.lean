/-! THE CLASS: poses -/
/-- a box (left, low, right, high) turned left so many times -/
def rotN : Nat → Int × Int × Int × Int → Int × Int × Int × Int
  | 0, b => b
  | n + 1, b => rotN n (-b.2.2.2, b.1, -b.2.1, b.2.2.1)
def box0 (A : Sg) (c o : Int) : Int × Int × Int × Int := if A 2 c 4 = 1 then (-(A 1 o 2 + pW A o), A 1 o 3, -A 1 o 2, A 1 o 3 + pH A o) else (A 1 o 2, A 1 o 3, A 1 o 2 + pW A o, A 1 o 3 + pH A o)
def tn0 (A : Sg) (c o : Int) : Int := if A 2 c 4 = 1 then (4 - A 1 o 4) % 4 else A 1 o 4
/-- what the part o is for the copy c -/
def pX (A : Sg) (c o : Int) : Int := (rotN (A 2 c 3).toNat (box0 A c o)).1 + A 2 c 1
def pY (A : Sg) (c o : Int) : Int := (rotN (A 2 c 3).toNat (box0 A c o)).2.1 + A 2 c 2
def pT (A : Sg) (c o : Int) : Int := (tn0 A c o + A 2 c 3) % 4
theorem m45 {G : Gw} {S : Sg} {k : Nat} {Q : AQ} {i : Int} (hi : 0 ≤ i ∧ i < 60) (hxy : okXY S i) (h : Q (.inl none) (su (su (su (su (su (su (su S 5 0 0 (S 1 i 0)) 5 0 1 (S 1 i 1)) 5 0 2 (S 1 i 2)) 5 0 3 (S 1 i 3)) 5 0 4 ((S 1 i 2) + pW S i)) 5 0 5 ((S 1 i 3) + pH S i)) 5 0 6 (S 1 i 4))) : Es G 45 0 (aEnt 2 [aR 5 (0 : Int), aR 1 i]) [] S (k + 1) Q := by
  have hw := pW_b hxy
  have hh := pH_b hxy
  unfold okXY at hxy
  refine es_rg (fun hg1 => ?_)
  refine es_sg 4 (p := (0 ≤ i ∧ i < 60) ∧ (((0 : Int) = 0) ∧ (r64 (S 1 i 0)))) (pc' := 8) (ls' := [some (aR 5 (0 : Int)), some (aR 1 i)]) (st' := []) (S' := su S 5 0 0 (S 1 i 0)) rfl ⟨(by omega), ⟨rfl, (rgL hg1 (t := 1) (i := i) (q := (0 : Int)) (by omega : 0 ≤ i ∧ i < 60) (by omega) rfl)⟩⟩ ?_
  refine es_rg (fun hg2 => ?_)
  refine es_sg 4 (p := (0 ≤ i ∧ i < 60) ∧ (((0 : Int) = 0) ∧ (r64 (S 1 i 1)))) (pc' := 16) (ls' := [some (aR 5 (0 : Int)), some (aR 1 i)]) (st' := []) (S' := su (su S 5 0 0 (S 1 i 0)) 5 0 1 (S 1 i 1)) rfl ⟨(by omega), ⟨rfl, (rgL hg1 (t := 1) (i := i) (q := (1 : Int)) (by omega : 0 ≤ i ∧ i < 60) (by omega) rfl)⟩⟩ ?_
  refine es_rg (fun hg3 => ?_)
  refine es_sg 4 (p := (0 ≤ i ∧ i < 60) ∧ (((0 : Int) = 0) ∧ (r64 (S 1 i 2)))) (pc' := 24) (ls' := [some (aR 5 (0 : Int)), some (aR 1 i)]) (st' := []) (S' := su (su (su S 5 0 0 (S 1 i 0)) 5 0 1 (S 1 i 1)) 5 0 2 (S 1 i 2)) rfl ⟨(by omega), ⟨rfl, (rgL hg1 (t := 1) (i := i) (q := (2 : Int)) (by omega : 0 ≤ i ∧ i < 60) (by omega) rfl)⟩⟩ ?_
  refine es_rg (fun hg4 => ?_)
  refine es_sg 4 (p := (0 ≤ i ∧ i < 60) ∧ (((0 : Int) = 0) ∧ (r64 (S 1 i 3)))) (pc' := 32) (ls' := [some (aR 5 (0 : Int)), some (aR 1 i)]) (st' := []) (S' := su (su (su (su S 5 0 0 (S 1 i 0)) 5 0 1 (S 1 i 1)) 5 0 2 (S 1 i 2)) 5 0 3 (S 1 i 3)) rfl ⟨(by omega), ⟨rfl, (rgL hg1 (t := 1) (i := i) (q := (3 : Int)) (by omega : 0 ≤ i ∧ i < 60) (by omega) rfl)⟩⟩ ?_
  refine es_rg (fun hg5 => ?_)
  refine es_s0 2 (pc' := 34) (ls' := [some (aR 5 (0 : Int)), some (aR 1 i)]) (st' := [aR 1 i, aR 5 (0 : Int)]) (S' := su (su (su (su S 5 0 0 (S 1 i 0)) 5 0 1 (S 1 i 1)) 5 0 2 (S 1 i 2)) 5 0 3 (S 1 i 3)) rfl ?_
  refine es_callV rfl rfl 1 i [] [aR 5 (0 : Int)] rfl rfl rfl (show 0 ≤ i ∧ i < 60 from (by omega)) (Nat.le_of_ble_eq_true rfl) (Nat.le_of_ble_eq_true rfl) (Nat.le_of_ble_eq_true rfl) ?_
  refine m43 (i := i) (by omega) (show 0 ≤ S 1 i 4 ∧ S 1 i 4 < 4 from by omega) ?_
  show Es G 45 37 [some (aR 5 (0 : Int)), some (aR 1 i)] [aL ((S 1 i 2) + pW S i), aR 5 (0 : Int)] (su (su (su (su S 5 0 0 (S 1 i 0)) 5 0 1 (S 1 i 1)) 5 0 2 (S 1 i 2)) 5 0 3 (S 1 i 3)) _ _
  refine es_sg 1 (p := ((0 : Int) = 0) ∧ (r64 ((S 1 i 2) + pW S i))) (pc' := 40) (ls' := [some (aR 5 (0 : Int)), some (aR 1 i)]) (st' := []) (S' := su (su (su (su (su S 5 0 0 (S 1 i 0)) 5 0 1 (S 1 i 1)) 5 0 2 (S 1 i 2)) 5 0 3 (S 1 i 3)) 5 0 4 ((S 1 i 2) + pW S i)) rfl ⟨rfl, ⟨by omega, by omega⟩⟩ ?_
  refine es_rg (fun hg6 => ?_)
  refine es_s0 2 (pc' := 42) (ls' := [some (aR 5 (0 : Int)), some (aR 1 i)]) (st' := [aR 1 i, aR 5 (0 : Int)]) (S' := su (su (su (su (su S 5 0 0 (S 1 i 0)) 5 0 1 (S 1 i 1)) 5 0 2 (S 1 i 2)) 5 0 3 (S 1 i 3)) 5 0 4 ((S 1 i 2) + pW S i)) rfl ?_
  refine es_callV rfl rfl 1 i [] [aR 5 (0 : Int)] rfl rfl rfl (show 0 ≤ i ∧ i < 60 from (by omega)) (Nat.le_of_ble_eq_true rfl) (Nat.le_of_ble_eq_true rfl) (Nat.le_of_ble_eq_true rfl) ?_
  refine m44 (i := i) (by omega) (show 0 ≤ S 1 i 4 ∧ S 1 i 4 < 4 from by omega) ?_
  show Es G 45 45 [some (aR 5 (0 : Int)), some (aR 1 i)] [aL ((S 1 i 3) + pH S i), aR 5 (0 : Int)] (su (su (su (su (su S 5 0 0 (S 1 i 0)) 5 0 1 (S 1 i 1)) 5 0 2 (S 1 i 2)) 5 0 3 (S 1 i 3)) 5 0 4 ((S 1 i 2) + pW S i)) _ _
  refine es_sg 1 (p := ((0 : Int) = 0) ∧ (r64 ((S 1 i 3) + pH S i))) (pc' := 48) (ls' := [some (aR 5 (0 : Int)), some (aR 1 i)]) (st' := []) (S' := su (su (su (su (su (su S 5 0 0 (S 1 i 0)) 5 0 1 (S 1 i 1)) 5 0 2 (S 1 i 2)) 5 0 3 (S 1 i 3)) 5 0 4 ((S 1 i 2) + pW S i)) 5 0 5 ((S 1 i 3) + pH S i)) rfl ⟨rfl, ⟨by omega, by omega⟩⟩ ?_
  refine es_rg (fun hg7 => ?_)
  refine es_sg 4 (p := (0 ≤ i ∧ i < 60) ∧ (((0 : Int) = 0) ∧ (r32 (S 1 i 4)))) (pc' := 56) (ls' := [some (aR 5 (0 : Int)), some (aR 1 i)]) (st' := []) (S' := su (su (su (su (su (su (su S 5 0 0 (S 1 i 0)) 5 0 1 (S 1 i 1)) 5 0 2 (S 1 i 2)) 5 0 3 (S 1 i 3)) 5 0 4 ((S 1 i 2) + pW S i)) 5 0 5 ((S 1 i 3) + pH S i)) 5 0 6 (S 1 i 4)) rfl ⟨(by omega), ⟨rfl, (rgI hg1 (t := 1) (i := i) (q := (4 : Int)) (by omega : 0 ≤ i ∧ i < 60) (by omega) rfl)⟩⟩ ?_
  refine es_rg (fun hg8 => ?_)
  refine es_vret rfl ?_
  exact h
theorem m46 {G : Gw} {S : Sg} {k : Nat} {Q : AQ} (hb2 : -5000000 ≤ S 5 0 2 ∧ S 5 0 2 ≤ 5000000) (hb3 : -5000000 ≤ S 5 0 3 ∧ S 5 0 3 ≤ 5000000) (hb4 : -5000000 ≤ S 5 0 4 ∧ S 5 0 4 ≤ 5000000) (hb5 : -5000000 ≤ S 5 0 5 ∧ S 5 0 5 ≤ 5000000) (hb6 : 0 ≤ S 5 0 6 ∧ S 5 0 6 < 4) (h : Q (.inl none) (su (su (su S 5 0 2 (-(S 5 0 4))) 5 0 4 (-(S 5 0 2))) 5 0 6 ((4 - (S 5 0 6)) % 4))) : Es G 46 0 (aEnt 3 [aR 5 (0 : Int)]) [] S (k + 0) Q := by
  refine es_rg (fun hg1 => ?_)
  refine es_sg 6 (p := ((0 : Int) = 0) ∧ ((0 : Int) = 0)) (pc' := 10) (ls' := [some (aR 5 (0 : Int)), some (aL (S 5 0 2)), none]) (st' := [aL (S 5 0 4), aR 5 (0 : Int)]) (S' := S) rfl ⟨rfl, rfl⟩ ?_
  refine es_sg 2 (p := ((0 : Int) = 0) ∧ (r64 (-(S 5 0 4)))) (pc' := 14) (ls' := [some (aR 5 (0 : Int)), some (aL (S 5 0 2)), none]) (st' := []) (S' := su S 5 0 2 (-(S 5 0 4))) rfl ⟨rfl, ⟨by omega, by omega⟩⟩ ?_
  refine es_rg (fun hg2 => ?_)
  refine es_sg 4 (p := ((0 : Int) = 0) ∧ (r64 (-(S 5 0 2)))) (pc' := 20) (ls' := [some (aR 5 (0 : Int)), some (aL (S 5 0 2)), none]) (st' := []) (S' := su (su S 5 0 2 (-(S 5 0 4))) 5 0 4 (-(S 5 0 2))) rfl ⟨rfl, ⟨by omega, by omega⟩⟩ ?_
  refine es_rg (fun hg3 => ?_)
  refine es_sg 6 (p := (0 : Int) = 0) (pc' := 28) (ls' := [some (aR 5 (0 : Int)), some (aL (S 5 0 2)), none]) (st' := [aI (4 : Int), aI (4 - (S 5 0 6)), aR 5 (0 : Int)]) (S' := su (su S 5 0 2 (-(S 5 0 4))) 5 0 4 (-(S 5 0 2))) rfl rfl ?_
  refine es_sg 2 (p := ((0 ≤ (4 - (S 5 0 6)) ∧ (4 - (S 5 0 6)) < 2147483648) ∧ (0 < (4 : Int) ∧ (4 : Int) < 2147483648)) ∧ (((0 : Int) = 0) ∧ (r32 ((4 - (S 5 0 6)) % 4)))) (pc' := 32) (ls' := [some (aR 5 (0 : Int)), some (aL (S 5 0 2)), none]) (st' := []) (S' := su (su (su S 5 0 2 (-(S 5 0 4))) 5 0 4 (-(S 5 0 2))) 5 0 6 ((4 - (S 5 0 6)) % 4)) rfl ⟨(by omega), ⟨rfl, ⟨by omega, by omega⟩⟩⟩ ?_
  refine es_rg (fun hg4 => ?_)
  refine es_vret rfl ?_
  exact h
theorem m47 {G : Gw} {S : Sg} {k : Nat} {Q : AQ} (hb2 : -5000000 ≤ S 5 0 2 ∧ S 5 0 2 ≤ 5000000) (hb3 : -5000000 ≤ S 5 0 3 ∧ S 5 0 3 ≤ 5000000) (hb4 : -5000000 ≤ S 5 0 4 ∧ S 5 0 4 ≤ 5000000) (hb5 : -5000000 ≤ S 5 0 5 ∧ S 5 0 5 ≤ 5000000) (hb6 : 0 ≤ S 5 0 6 ∧ S 5 0 6 < 4) (h : Q (.inl none) (su (su (su (su (su S 5 0 3 (S 5 0 2)) 5 0 5 (S 5 0 4)) 5 0 2 (-(S 5 0 5))) 5 0 4 (-(S 5 0 3))) 5 0 6 (((S 5 0 6) + 1) % 4))) : Es G 47 0 (aEnt 5 [aR 5 (0 : Int)]) [] S (k + 0) Q := by
  refine es_rg (fun hg1 => ?_)
  refine es_sg 6 (p := ((0 : Int) = 0) ∧ ((0 : Int) = 0)) (pc' := 10) (ls' := [some (aR 5 (0 : Int)), some (aL (S 5 0 3)), none, some (aL (S 5 0 5)), none]) (st' := []) (S' := S) rfl ⟨rfl, rfl⟩ ?_
  refine es_sg 4 (p := ((0 : Int) = 0) ∧ (((0 : Int) = 0) ∧ (r64 (S 5 0 2)))) (pc' := 18) (ls' := [some (aR 5 (0 : Int)), some (aL (S 5 0 3)), none, some (aL (S 5 0 5)), none]) (st' := []) (S' := su S 5 0 3 (S 5 0 2)) rfl ⟨rfl, ⟨rfl, (rgL hg1 (t := 5) (i := (0 : Int)) (q := (2 : Int)) (by omega : 0 ≤ (0 : Int) ∧ (0 : Int) < 1) (by omega) rfl)⟩⟩ ?_
  refine es_rg (fun hg2 => ?_)
  refine es_sg 4 (p := ((0 : Int) = 0) ∧ (((0 : Int) = 0) ∧ (r64 (S 5 0 4)))) (pc' := 26) (ls' := [some (aR 5 (0 : Int)), some (aL (S 5 0 3)), none, some (aL (S 5 0 5)), none]) (st' := []) (S' := su (su S 5 0 3 (S 5 0 2)) 5 0 5 (S 5 0 4)) rfl ⟨rfl, ⟨rfl, (rgL hg1 (t := 5) (i := (0 : Int)) (q := (4 : Int)) (by omega : 0 ≤ (0 : Int) ∧ (0 : Int) < 1) (by omega) rfl)⟩⟩ ?_
  refine es_rg (fun hg3 => ?_)
  refine es_sg 4 (p := ((0 : Int) = 0) ∧ (r64 (-(S 5 0 5)))) (pc' := 32) (ls' := [some (aR 5 (0 : Int)), some (aL (S 5 0 3)), none, some (aL (S 5 0 5)), none]) (st' := []) (S' := su (su (su S 5 0 3 (S 5 0 2)) 5 0 5 (S 5 0 4)) 5 0 2 (-(S 5 0 5))) rfl ⟨rfl, ⟨by omega, by omega⟩⟩ ?_
  refine es_rg (fun hg4 => ?_)
  refine es_sg 4 (p := ((0 : Int) = 0) ∧ (r64 (-(S 5 0 3)))) (pc' := 38) (ls' := [some (aR 5 (0 : Int)), some (aL (S 5 0 3)), none, some (aL (S 5 0 5)), none]) (st' := []) (S' := su (su (su (su S 5 0 3 (S 5 0 2)) 5 0 5 (S 5 0 4)) 5 0 2 (-(S 5 0 5))) 5 0 4 (-(S 5 0 3))) rfl ⟨rfl, ⟨by omega, by omega⟩⟩ ?_
  refine es_rg (fun hg5 => ?_)
  refine es_sg 6 (p := (0 : Int) = 0) (pc' := 46) (ls' := [some (aR 5 (0 : Int)), some (aL (S 5 0 3)), none, some (aL (S 5 0 5)), none]) (st' := [aI (4 : Int), aI ((S 5 0 6) + 1), aR 5 (0 : Int)]) (S' := su (su (su (su S 5 0 3 (S 5 0 2)) 5 0 5 (S 5 0 4)) 5 0 2 (-(S 5 0 5))) 5 0 4 (-(S 5 0 3))) rfl rfl ?_
  refine es_sg 2 (p := ((0 ≤ ((S 5 0 6) + 1) ∧ ((S 5 0 6) + 1) < 2147483648) ∧ (0 < (4 : Int) ∧ (4 : Int) < 2147483648)) ∧ (((0 : Int) = 0) ∧ (r32 (((S 5 0 6) + 1) % 4)))) (pc' := 50) (ls' := [some (aR 5 (0 : Int)), some (aL (S 5 0 3)), none, some (aL (S 5 0 5)), none]) (st' := []) (S' := su (su (su (su (su S 5 0 3 (S 5 0 2)) 5 0 5 (S 5 0 4)) 5 0 2 (-(S 5 0 5))) 5 0 4 (-(S 5 0 3))) 5 0 6 (((S 5 0 6) + 1) % 4)) rfl ⟨(by omega), ⟨rfl, ⟨by omega, by omega⟩⟩⟩ ?_
  refine es_rg (fun hg6 => ?_)
  refine es_vret rfl ?_
  exact h
theorem m48 {G : Gw} {S : Sg} {k : Nat} {Q : AQ} (hb2 : -5000000 ≤ S 5 0 2 ∧ S 5 0 2 ≤ 5000000) (hb3 : -5000000 ≤ S 5 0 3 ∧ S 5 0 3 ≤ 5000000) (hb4 : -5000000 ≤ S 5 0 4 ∧ S 5 0 4 ≤ 5000000) (hb5 : -5000000 ≤ S 5 0 5 ∧ S 5 0 5 ≤ 5000000) (hb6 : 0 ≤ S 5 0 6 ∧ S 5 0 6 < 4) {x y : Int} (hx : -1000000 ≤ x ∧ x ≤ 1000000) (hy : -1000000 ≤ y ∧ y ≤ 1000000) (h : Q (.inl none) (su (su (su (su S 5 0 2 ((S 5 0 2) + x)) 5 0 4 ((S 5 0 4) + x)) 5 0 3 ((S 5 0 3) + y)) 5 0 5 ((S 5 0 5) + y))) : Es G 48 0 (aEnt 5 [aR 5 (0 : Int), aL x, aL y]) [] S (k + 0) Q := by
  refine es_rg (fun hg1 => ?_)
  refine es_sg 6 (p := ((0 : Int) = 0) ∧ (((0 : Int) = 0) ∧ (r64 ((S 5 0 2) + x)))) (pc' := 10) (ls' := [some (aR 5 (0 : Int)), some (aL x), none, some (aL y), none]) (st' := []) (S' := su S 5 0 2 ((S 5 0 2) + x)) rfl ⟨rfl, ⟨rfl, ⟨by omega, by omega⟩⟩⟩ ?_
  refine es_rg (fun hg2 => ?_)
  refine es_sg 6 (p := ((0 : Int) = 0) ∧ (((0 : Int) = 0) ∧ (r64 ((S 5 0 4) + x)))) (pc' := 20) (ls' := [some (aR 5 (0 : Int)), some (aL x), none, some (aL y), none]) (st' := []) (S' := su (su S 5 0 2 ((S 5 0 2) + x)) 5 0 4 ((S 5 0 4) + x)) rfl ⟨rfl, ⟨rfl, ⟨by omega, by omega⟩⟩⟩ ?_
  refine es_rg (fun hg3 => ?_)
  refine es_sg 6 (p := ((0 : Int) = 0) ∧ (((0 : Int) = 0) ∧ (r64 ((S 5 0 3) + y)))) (pc' := 30) (ls' := [some (aR 5 (0 : Int)), some (aL x), none, some (aL y), none]) (st' := []) (S' := su (su (su S 5 0 2 ((S 5 0 2) + x)) 5 0 4 ((S 5 0 4) + x)) 5 0 3 ((S 5 0 3) + y)) rfl ⟨rfl, ⟨rfl, ⟨by omega, by omega⟩⟩⟩ ?_
  refine es_rg (fun hg4 => ?_)
  refine es_sg 6 (p := ((0 : Int) = 0) ∧ (((0 : Int) = 0) ∧ (r64 ((S 5 0 5) + y)))) (pc' := 40) (ls' := [some (aR 5 (0 : Int)), some (aL x), none, some (aL y), none]) (st' := []) (S' := su (su (su (su S 5 0 2 ((S 5 0 2) + x)) 5 0 4 ((S 5 0 4) + x)) 5 0 3 ((S 5 0 3) + y)) 5 0 5 ((S 5 0 5) + y)) rfl ⟨rfl, ⟨rfl, ⟨by omega, by omega⟩⟩⟩ ?_
  refine es_rg (fun hg5 => ?_)
  refine es_vret rfl ?_
  exact h
theorem m49_l {G : Gw} {S0 : Sg} {k : Nat} {Q : AQ} {c r o : Int} (hc : 0 ≤ c ∧ c < 20) (ht : 0 ≤ S0 2 c 3 ∧ S0 2 c 3 < 4) (hdx : -1000000 ≤ S0 2 c 1 ∧ S0 2 c 1 ≤ 1000000) (hdy : -1000000 ≤ S0 2 c 2 ∧ S0 2 c 2 ≤ 1000000) : ∀ (n : Nat) (S : Sg) (q a0 a1 l b rr u t : Int) (_ : 0 ≤ q) (_ : q + n = S0 2 c 3) (_ : ∀ t : Nat, t ≠ 5 → S t = S0 t) (_ : S 5 0 0 = a0) (_ : S 5 0 1 = a1) (_ : S 5 0 2 = l) (_ : S 5 0 3 = b) (_ : S 5 0 4 = rr) (_ : S 5 0 5 = u) (_ : S 5 0 6 = t) (_ : -3000000 ≤ l ∧ l ≤ 3000000) (_ : -3000000 ≤ b ∧ b ≤ 3000000) (_ : -3000000 ≤ rr ∧ rr ≤ 3000000) (_ : -3000000 ≤ u ∧ u ≤ 3000000) (_ : 0 ≤ t ∧ t < 4)
    (_ : ∀ S' : Sg, (∀ t : Nat, t ≠ 5 → S' t = S0 t) → S' 5 0 0 = a0 → S' 5 0 1 = a1 → S' 5 0 2 = (rotN n (l, b, rr, u)).1 + S0 2 c 1 → S' 5 0 3 = (rotN n (l, b, rr, u)).2.1 + S0 2 c 2 → S' 5 0 6 = (t + n) % 4 → Q (.inl (some (aI 1))) S'), Es G 49 68 [some (aR 0 0), some (aR 2 c), some (aI r), some (aI o), some (aI q)] [] S (k + 1) Q := by
  intro n
  induction n using Nat.strongRecOn with
  | _ n ih =>
    intro S q a0 a1 l b rr u t hq hn hS f0 f1 f2 f3 f4 f5 f6 bl bb br bu bt' h
    have e23 : S 2 c 3 = S0 2 c 3 := by rw [hS 2 (by decide)]
    have e21 : S 2 c 1 = S0 2 c 1 := by rw [hS 2 (by decide)]
    have e22 : S 2 c 2 = S0 2 c 2 := by rw [hS 2 (by decide)]
    refine es_rg (fun hg1 => ?_)
    refine es_sg 3 (p := 0 ≤ c ∧ c < 20) (pc' := 74) (ls' := [some (aR 0 (0 : Int)), some (aR 2 c), some (aI r), some (aI o), some (aI q)]) (st' := [aI (S 2 c 3), aI q]) (S' := S) rfl (by omega) ?_
    refine es_icmp rfl 90 rfl ⟨by omega, by omega⟩ (rgI hg1 (t := 2) (i := c) (q := (3 : Int)) (by omega : 0 ≤ c ∧ c < 20) (by omega) rfl) (fun (g74 : (S 2 c 3) ≤ q) => ?_) (fun (g74 : ¬ ((S 2 c 3) ≤ q)) => ?_)
    · refine es_sg 6 (p := ((0 : Int) = 0) ∧ ((0 ≤ c ∧ c < 20) ∧ (0 ≤ c ∧ c < 20))) (pc' := 102) (ls' := [some (aR 0 (0 : Int)), some (aR 2 c), some (aI r), some (aI o), some (aI q)]) (st' := [aL (S 2 c 2), aL (S 2 c 1), aR 5 (0 : Int)]) (S' := S) rfl ⟨rfl, (by omega), (by omega)⟩ ?_
      refine es_callV rfl rfl 5 (0 : Int) [aL (S 2 c 1), aL (S 2 c 2)] [] rfl rfl rfl rfl (Nat.le_of_ble_eq_true rfl) (Nat.le_of_ble_eq_true rfl) (Nat.le_of_ble_eq_true rfl) ?_
      refine m48 (show -5000000 ≤ S 5 0 2 ∧ S 5 0 2 ≤ 5000000 from by omega) (show -5000000 ≤ S 5 0 3 ∧ S 5 0 3 ≤ 5000000 from by omega) (show -5000000 ≤ S 5 0 4 ∧ S 5 0 4 ≤ 5000000 from by omega) (show -5000000 ≤ S 5 0 5 ∧ S 5 0 5 ≤ 5000000 from by omega) (show 0 ≤ S 5 0 6 ∧ S 5 0 6 < 4 from by omega) (by omega) (by omega) ?_
      show Es G 49 105 [some (aR 0 (0 : Int)), some (aR 2 c), some (aI r), some (aI o), some (aI q)] [] (su (su (su (su S 5 0 2 ((S 5 0 2) + (S 2 c 1))) 5 0 4 ((S 5 0 4) + (S 2 c 1))) 5 0 3 ((S 5 0 3) + (S 2 c 2))) 5 0 5 ((S 5 0 5) + (S 2 c 2))) _ _
      refine es_rg (fun hg2 => ?_)
      refine es_s0 1 (pc' := 106) (ls' := [some (aR 0 (0 : Int)), some (aR 2 c), some (aI r), some (aI o), some (aI q)]) (st' := [aI (1 : Int)]) (S' := su (su (su (su S 5 0 2 ((S 5 0 2) + (S 2 c 1))) 5 0 4 ((S 5 0 4) + (S 2 c 1))) 5 0 3 ((S 5 0 3) + (S 2 c 2))) 5 0 5 ((S 5 0 5) + (S 2 c 2))) rfl ?_
      refine es_iret rfl rfl rfl (Or.inr ⟨rfl, (by decide)⟩) ?_
      have e0 : n = 0 := by omega
      subst e0
      refine h _ (fun t ht => ?_) f0 f1 ?_ ?_ ?_
      · rw [su_tt _ ht, su_tt _ ht, su_tt _ ht, su_tt _ ht]; exact hS t ht
      · show S 5 0 2 + S 2 c 1 = l + S0 2 c 1
        rw [f2, e21]
      · show S 5 0 3 + S 2 c 2 = b + S0 2 c 2
        rw [f3, e22]
      · show S 5 0 6 = (t + ((0 : Nat) : Int)) % 4
        omega
    · refine es_sg 2 (p := (0 : Int) = 0) (pc' := 81) (ls' := [some (aR 0 (0 : Int)), some (aR 2 c), some (aI r), some (aI o), some (aI q)]) (st' := [aR 5 (0 : Int)]) (S' := S) rfl rfl ?_
      refine es_callV rfl rfl 5 (0 : Int) [] [] rfl rfl rfl rfl (Nat.le_of_ble_eq_true rfl) (Nat.le_of_ble_eq_true rfl) (Nat.le_of_ble_eq_true rfl) ?_
      refine m47 (show -5000000 ≤ S 5 0 2 ∧ S 5 0 2 ≤ 5000000 from by omega) (show -5000000 ≤ S 5 0 3 ∧ S 5 0 3 ≤ 5000000 from by omega) (show -5000000 ≤ S 5 0 4 ∧ S 5 0 4 ≤ 5000000 from by omega) (show -5000000 ≤ S 5 0 5 ∧ S 5 0 5 ≤ 5000000 from by omega) (show 0 ≤ S 5 0 6 ∧ S 5 0 6 < 4 from by omega) ?_
      show Es G 49 84 [some (aR 0 (0 : Int)), some (aR 2 c), some (aI r), some (aI o), some (aI q)] [] (su (su (su (su (su S 5 0 3 (S 5 0 2)) 5 0 5 (S 5 0 4)) 5 0 2 (-(S 5 0 5))) 5 0 4 (-(S 5 0 3))) 5 0 6 (((S 5 0 6) + 1) % 4)) _ _
      refine es_rg (fun hg3 => ?_)
      refine es_s0 2 (pc' := 68) (ls' := [some (aR 0 (0 : Int)), some (aR 2 c), some (aI r), some (aI o), some (aI (q + 1))]) (st' := []) (S' := su (su (su (su (su S 5 0 3 (S 5 0 2)) 5 0 5 (S 5 0 4)) 5 0 2 (-(S 5 0 5))) 5 0 4 (-(S 5 0 3))) 5 0 6 (((S 5 0 6) + 1) % 4)) rfl ?_
      obtain ⟨n, rfl⟩ : ∃ m, n = m + 1 := ⟨n - 1, by omega⟩
      refine ih n (by omega) _ (q + 1) a0 a1 (-u) l (-b) rr ((t + 1) % 4) (by omega) (by omega) (fun t ht => ?_) f0 f1 (show -(S 5 0 5) = -u by rw [f5]) (show S 5 0 2 = l from f2) (show -(S 5 0 3) = -b by rw [f3]) (show S 5 0 4 = rr from f4) (show (S 5 0 6 + 1) % 4 = (t + 1) % 4 by rw [f6]) (by omega) (by omega) (by omega) (by omega) (by omega) (fun S' q0 q1 q2 q3 q4 q5 => h S' q0 q1 q2 q3 q4 ?_)
      · rw [su_tt _ ht, su_tt _ ht, su_tt _ ht, su_tt _ ht, su_tt _ ht]; exact hS t ht
      · rw [q5]; omega
/-- a channel's fields are small -/
def okCh (S : Sg) (c : Int) : Prop := (0 ≤ S 2 c 3 ∧ S 2 c 3 < 4) ∧ (-1000000 ≤ S 2 c 1 ∧ S 2 c 1 ≤ 1000000) ∧ (-1000000 ≤ S 2 c 2 ∧ S 2 c 2 ≤ 1000000)
/-- a part's place isn't far -/
def near (S : Sg) (i : Int) : Prop := (-1000000 ≤ S 1 i 2 ∧ S 1 i 2 ≤ 1000000) ∧ (-1000000 ≤ S 1 i 3 ∧ S 1 i 3 ≤ 1000000)
theorem m49 {G : Gw} {S : Sg} {k : Nat} {Q : AQ} (hnp : 0 ≤ S 0 0 5 ∧ S 0 0 5 ≤ 60) (hnc : 0 ≤ S 0 0 6 ∧ S 0 0 6 ≤ 20) {c r : Int} (hc : 0 ≤ c ∧ c < 20) (hr : 0 ≤ r ∧ r < 20) (hch : okCh S c) (hxy : ((0 ≤ S 2 c 0 ∧ S 2 c 0 < S 0 0 6) ∧ (0 ≤ S 3 (S 2 c 0) r ∧ S 3 (S 2 c 0) r < S 0 0 5)) → okXY S (S 3 (S 2 c 0) r) ∧ near S (S 3 (S 2 c 0) r)) (h0 : ¬ ((0 ≤ S 2 c 0 ∧ S 2 c 0 < S 0 0 6) ∧ (0 ≤ S 3 (S 2 c 0) r ∧ S 3 (S 2 c 0) r < S 0 0 5)) → Q (.inl (some (aI 0))) S) (h1 : ((0 ≤ S 2 c 0 ∧ S 2 c 0 < S 0 0 6) ∧ (0 ≤ S 3 (S 2 c 0) r ∧ S 3 (S 2 c 0) r < S 0 0 5)) → ∀ S' : Sg, (∀ t : Nat, t ≠ 5 → S' t = S t) → S' 5 0 0 = S 1 (S 3 (S 2 c 0) r) 0 → S' 5 0 1 = S 1 (S 3 (S 2 c 0) r) 1 → S' 5 0 2 = pX S c (S 3 (S 2 c 0) r) → S' 5 0 3 = pY S c (S 3 (S 2 c 0) r) → S' 5 0 6 = pT S c (S 3 (S 2 c 0) r) → Q (.inl (some (aI 1))) S') : Es G 49 0 (aEnt 5 [aR 0 (0 : Int), aR 2 c, aI r]) [] S (k + 2) Q := by
  refine es_rg (fun hg1 => ?_)
  refine es_sg 3 (p := 0 ≤ c ∧ c < 20) (pc' := 5) (ls' := [some (aR 0 (0 : Int)), some (aR 2 c), some (aI r), none, none]) (st' := [aI (S 2 c 0), aR 0 (0 : Int)]) (S' := S) rfl (by omega) ?_
  refine es_callV rfl rfl 0 (0 : Int) [aI (S 2 c 0)] [] rfl rfl rfl rfl (Nat.le_of_ble_eq_true rfl) (Nat.le_of_ble_eq_true rfl) (Nat.le_of_ble_eq_true rfl) ?_
  refine m33 (n := (S 2 c 0)) (rgI hg1 (t := 2) (i := c) (q := (0 : Int)) (by omega : 0 ≤ c ∧ c < 20) (by omega) rfl) (fun hc5 => ?_) (fun hc5 => ?_)
  · show Es G 49 8 [some (aR 0 (0 : Int)), some (aR 2 c), some (aI r), none, none] [aI (1 : Int)] S _ _
    refine es_if rfl 13 rfl ⟨by decide, by decide⟩ (fun (g8 : ¬ (1 : Int) = (0 : Int)) => ?_) (fun (g8 : ¬ (¬ (1 : Int) = (0 : Int))) => absurd g8 (by decide))
    refine es_sg 6 (p := ((0 : Int) = 0) ∧ ((0 ≤ c ∧ c < 20) ∧ ((((0 : Int) = 0) ∧ (0 ≤ (S 2 c 0) ∧ (S 2 c 0) < 20)) ∧ (0 ≤ (S 2 c 0) ∧ (S 2 c 0) < 20)))) (pc' := 25) (ls' := [some (aR 0 (0 : Int)), some (aR 2 c), some (aI r), none, none]) (st' := [aR 3 (S 2 c 0)]) (S' := S) rfl ⟨rfl, (by omega), ⟨rfl, (by omega)⟩, (by omega)⟩ ?_
    refine es_sg 5 (p := (0 ≤ (S 2 c 0) ∧ (S 2 c 0) < 20) ∧ (0 ≤ r ∧ r < 20)) (pc' := 30) (ls' := [some (aR 0 (0 : Int)), some (aR 2 c), some (aI r), some (aI (S 3 (S 2 c 0) r)), none]) (st' := [aI (S 3 (S 2 c 0) r), aR 0 (0 : Int)]) (S' := S) rfl ⟨(by omega), (by omega)⟩ ?_
    refine es_callV rfl rfl 0 (0 : Int) [aI (S 3 (S 2 c 0) r)] [] rfl rfl rfl rfl (Nat.le_of_ble_eq_true rfl) (Nat.le_of_ble_eq_true rfl) (Nat.le_of_ble_eq_true rfl) ?_
    refine m16 (n := (S 3 (S 2 c 0) r)) (rgI hg1 (t := 3) (i := (S 2 c 0)) (q := r) (by omega : 0 ≤ (S 2 c 0) ∧ (S 2 c 0) < 20) (by omega) rfl) (fun hc30 => ?_) (fun hc30 => ?_)
    · show Es G 49 33 [some (aR 0 (0 : Int)), some (aR 2 c), some (aI r), some (aI (S 3 (S 2 c 0) r)), none] [aI (1 : Int)] S _ _
      refine es_if rfl 38 rfl ⟨by decide, by decide⟩ (fun (g33 : ¬ (1 : Int) = (0 : Int)) => ?_) (fun (g33 : ¬ (¬ (1 : Int) = (0 : Int))) => absurd g33 (by decide))
      have hz := rgZ hg1 (t := 2) (i := c) (q := 4) (by omega : 0 ≤ c ∧ c < 20) (by omega) rfl
      obtain ⟨hxy, hnear⟩ := hxy ⟨hc5, hc30⟩
      have hw := pW_b hxy
      have hh := pH_b hxy
      have hxy2 := hxy
      unfold okXY at hxy2
      unfold near at hnear
      have hch2 := hch
      unfold okCh at hch2
      refine es_sg 6 (p := ((0 : Int) = 0) ∧ (((0 : Int) = 0) ∧ (((0 : Int) = 0) ∧ (0 ≤ (S 3 (S 2 c 0) r) ∧ (S 3 (S 2 c 0) r) < 60)))) (pc' := 48) (ls' := [some (aR 0 (0 : Int)), some (aR 2 c), some (aI r), some (aI (S 3 (S 2 c 0) r)), none]) (st' := [aR 1 (S 3 (S 2 c 0) r), aR 5 (0 : Int)]) (S' := S) rfl ⟨rfl, rfl, ⟨rfl, (by omega)⟩⟩ ?_
      refine es_callV rfl rfl 5 (0 : Int) [aR 1 (S 3 (S 2 c 0) r)] [] rfl rfl rfl rfl (Nat.le_of_ble_eq_true rfl) (Nat.le_of_ble_eq_true rfl) (Nat.le_of_ble_eq_true rfl) ?_
      refine m45 (i := (S 3 (S 2 c 0) r)) (by omega) hxy ?_
      show Es G 49 51 [some (aR 0 (0 : Int)), some (aR 2 c), some (aI r), some (aI (S 3 (S 2 c 0) r)), none] [] (su (su (su (su (su (su (su S 5 0 0 (S 1 (S 3 (S 2 c 0) r) 0)) 5 0 1 (S 1 (S 3 (S 2 c 0) r) 1)) 5 0 2 (S 1 (S 3 (S 2 c 0) r) 2)) 5 0 3 (S 1 (S 3 (S 2 c 0) r) 3)) 5 0 4 ((S 1 (S 3 (S 2 c 0) r) 2) + pW S (S 3 (S 2 c 0) r))) 5 0 5 ((S 1 (S 3 (S 2 c 0) r) 3) + pH S (S 3 (S 2 c 0) r))) 5 0 6 (S 1 (S 3 (S 2 c 0) r) 4)) _ _
      refine es_rg (fun hg2 => ?_)
      refine es_sg 2 (p := 0 ≤ c ∧ c < 20) (pc' := 55) (ls' := [some (aR 0 (0 : Int)), some (aR 2 c), some (aI r), some (aI (S 3 (S 2 c 0) r)), none]) (st' := [aI (S 2 c 4)]) (S' := su (su (su (su (su (su (su S 5 0 0 (S 1 (S 3 (S 2 c 0) r) 0)) 5 0 1 (S 1 (S 3 (S 2 c 0) r) 1)) 5 0 2 (S 1 (S 3 (S 2 c 0) r) 2)) 5 0 3 (S 1 (S 3 (S 2 c 0) r) 3)) 5 0 4 ((S 1 (S 3 (S 2 c 0) r) 2) + pW S (S 3 (S 2 c 0) r))) 5 0 5 ((S 1 (S 3 (S 2 c 0) r) 3) + pH S (S 3 (S 2 c 0) r))) 5 0 6 (S 1 (S 3 (S 2 c 0) r) 4)) rfl (by omega) ?_
      refine es_if rfl 65 rfl (r32_z (rgZ hg1 (t := 2) (i := c) (q := (4 : Int)) (by omega : 0 ≤ c ∧ c < 20) (by omega) rfl)) (fun (g55 : (S 2 c 4) = (0 : Int)) => ?_) (fun (g55 : ¬ ((S 2 c 4) = (0 : Int))) => ?_)
      · refine es_s0 2 (pc' := 68) (ls' := [some (aR 0 (0 : Int)), some (aR 2 c), some (aI r), some (aI (S 3 (S 2 c 0) r)), some (aI (0 : Int))]) (st' := []) (S' := su (su (su (su (su (su (su S 5 0 0 (S 1 (S 3 (S 2 c 0) r) 0)) 5 0 1 (S 1 (S 3 (S 2 c 0) r) 1)) 5 0 2 (S 1 (S 3 (S 2 c 0) r) 2)) 5 0 3 (S 1 (S 3 (S 2 c 0) r) 3)) 5 0 4 ((S 1 (S 3 (S 2 c 0) r) 2) + pW S (S 3 (S 2 c 0) r))) 5 0 5 ((S 1 (S 3 (S 2 c 0) r) 3) + pH S (S 3 (S 2 c 0) r))) 5 0 6 (S 1 (S 3 (S 2 c 0) r) 4)) rfl ?_
        have eb : box0 S c (S 3 (S 2 c 0) r) = (S 1 (S 3 (S 2 c 0) r) 2, S 1 (S 3 (S 2 c 0) r) 3, (S 1 (S 3 (S 2 c 0) r) 2) + pW S (S 3 (S 2 c 0) r), (S 1 (S 3 (S 2 c 0) r) 3) + pH S (S 3 (S 2 c 0) r)) := by unfold box0; rw [if_neg (by omega)]
        have et : tn0 S c (S 3 (S 2 c 0) r) = S 1 (S 3 (S 2 c 0) r) 4 := by unfold tn0; rw [if_neg (by omega)]
        refine m49_l (S0 := S) hc hch.1 hch.2.1 hch.2.2 (S 2 c 3).toNat _ 0 _ _ _ _ _ _ _ (by omega) (by omega) (fun t ht => ?_) rfl rfl rfl rfl rfl rfl rfl (show -3000000 ≤ S 1 (S 3 (S 2 c 0) r) 2 ∧ S 1 (S 3 (S 2 c 0) r) 2 ≤ 3000000 from by omega) (show -3000000 ≤ S 1 (S 3 (S 2 c 0) r) 3 ∧ S 1 (S 3 (S 2 c 0) r) 3 ≤ 3000000 from by omega) (show -3000000 ≤ (S 1 (S 3 (S 2 c 0) r) 2) + pW S (S 3 (S 2 c 0) r) ∧ (S 1 (S 3 (S 2 c 0) r) 2) + pW S (S 3 (S 2 c 0) r) ≤ 3000000 from by omega) (show -3000000 ≤ (S 1 (S 3 (S 2 c 0) r) 3) + pH S (S 3 (S 2 c 0) r) ∧ (S 1 (S 3 (S 2 c 0) r) 3) + pH S (S 3 (S 2 c 0) r) ≤ 3000000 from by omega) (show 0 ≤ S 1 (S 3 (S 2 c 0) r) 4 ∧ S 1 (S 3 (S 2 c 0) r) 4 < 4 from by omega) (fun S' q0 q1 q2 q3 q4 q5 => h1 (by omega) S' q0 q1 q2 ?_ ?_ ?_)
        · rw [su_tt _ ht, su_tt _ ht, su_tt _ ht, su_tt _ ht, su_tt _ ht, su_tt _ ht, su_tt _ ht]
        · unfold pX; rw [eb]; exact q3
        · unfold pY; rw [eb]; exact q4
        · unfold pT; rw [et, q5, show (((S 2 c 3).toNat : Nat) : Int) = S 2 c 3 from by omega]; rfl
      · refine es_sg 2 (p := (0 : Int) = 0) (pc' := 62) (ls' := [some (aR 0 (0 : Int)), some (aR 2 c), some (aI r), some (aI (S 3 (S 2 c 0) r)), none]) (st' := [aR 5 (0 : Int)]) (S' := su (su (su (su (su (su (su S 5 0 0 (S 1 (S 3 (S 2 c 0) r) 0)) 5 0 1 (S 1 (S 3 (S 2 c 0) r) 1)) 5 0 2 (S 1 (S 3 (S 2 c 0) r) 2)) 5 0 3 (S 1 (S 3 (S 2 c 0) r) 3)) 5 0 4 ((S 1 (S 3 (S 2 c 0) r) 2) + pW S (S 3 (S 2 c 0) r))) 5 0 5 ((S 1 (S 3 (S 2 c 0) r) 3) + pH S (S 3 (S 2 c 0) r))) 5 0 6 (S 1 (S 3 (S 2 c 0) r) 4)) rfl rfl ?_
        refine es_callV rfl rfl 5 (0 : Int) [] [] rfl rfl rfl rfl (Nat.le_of_ble_eq_true rfl) (Nat.le_of_ble_eq_true rfl) (Nat.le_of_ble_eq_true rfl) ?_
        refine m46 (show -5000000 ≤ S 1 (S 3 (S 2 c 0) r) 2 ∧ S 1 (S 3 (S 2 c 0) r) 2 ≤ 5000000 from by omega) (show -5000000 ≤ S 1 (S 3 (S 2 c 0) r) 3 ∧ S 1 (S 3 (S 2 c 0) r) 3 ≤ 5000000 from by omega) (show -5000000 ≤ (S 1 (S 3 (S 2 c 0) r) 2) + pW S (S 3 (S 2 c 0) r) ∧ (S 1 (S 3 (S 2 c 0) r) 2) + pW S (S 3 (S 2 c 0) r) ≤ 5000000 from by omega) (show -5000000 ≤ (S 1 (S 3 (S 2 c 0) r) 3) + pH S (S 3 (S 2 c 0) r) ∧ (S 1 (S 3 (S 2 c 0) r) 3) + pH S (S 3 (S 2 c 0) r) ≤ 5000000 from by omega) (show 0 ≤ S 1 (S 3 (S 2 c 0) r) 4 ∧ S 1 (S 3 (S 2 c 0) r) 4 < 4 from by omega) ?_
        show Es G 49 65 [some (aR 0 (0 : Int)), some (aR 2 c), some (aI r), some (aI (S 3 (S 2 c 0) r)), none] [] (su (su (su (su (su (su (su (su (su (su S 5 0 0 (S 1 (S 3 (S 2 c 0) r) 0)) 5 0 1 (S 1 (S 3 (S 2 c 0) r) 1)) 5 0 2 (S 1 (S 3 (S 2 c 0) r) 2)) 5 0 3 (S 1 (S 3 (S 2 c 0) r) 3)) 5 0 4 ((S 1 (S 3 (S 2 c 0) r) 2) + pW S (S 3 (S 2 c 0) r))) 5 0 5 ((S 1 (S 3 (S 2 c 0) r) 3) + pH S (S 3 (S 2 c 0) r))) 5 0 6 (S 1 (S 3 (S 2 c 0) r) 4)) 5 0 2 (-((S 1 (S 3 (S 2 c 0) r) 2) + pW S (S 3 (S 2 c 0) r)))) 5 0 4 (-(S 1 (S 3 (S 2 c 0) r) 2))) 5 0 6 ((4 - (S 1 (S 3 (S 2 c 0) r) 4)) % 4)) _ _
        refine es_rg (fun hg3 => ?_)
        refine es_s0 2 (pc' := 68) (ls' := [some (aR 0 (0 : Int)), some (aR 2 c), some (aI r), some (aI (S 3 (S 2 c 0) r)), some (aI (0 : Int))]) (st' := []) (S' := su (su (su (su (su (su (su (su (su (su S 5 0 0 (S 1 (S 3 (S 2 c 0) r) 0)) 5 0 1 (S 1 (S 3 (S 2 c 0) r) 1)) 5 0 2 (S 1 (S 3 (S 2 c 0) r) 2)) 5 0 3 (S 1 (S 3 (S 2 c 0) r) 3)) 5 0 4 ((S 1 (S 3 (S 2 c 0) r) 2) + pW S (S 3 (S 2 c 0) r))) 5 0 5 ((S 1 (S 3 (S 2 c 0) r) 3) + pH S (S 3 (S 2 c 0) r))) 5 0 6 (S 1 (S 3 (S 2 c 0) r) 4)) 5 0 2 (-((S 1 (S 3 (S 2 c 0) r) 2) + pW S (S 3 (S 2 c 0) r)))) 5 0 4 (-(S 1 (S 3 (S 2 c 0) r) 2))) 5 0 6 ((4 - (S 1 (S 3 (S 2 c 0) r) 4)) % 4)) rfl ?_
        have eb : box0 S c (S 3 (S 2 c 0) r) = (-((S 1 (S 3 (S 2 c 0) r) 2) + pW S (S 3 (S 2 c 0) r)), S 1 (S 3 (S 2 c 0) r) 3, -(S 1 (S 3 (S 2 c 0) r) 2), (S 1 (S 3 (S 2 c 0) r) 3) + pH S (S 3 (S 2 c 0) r)) := by unfold box0; rw [if_pos (by omega)]
        have et : tn0 S c (S 3 (S 2 c 0) r) = (4 - (S 1 (S 3 (S 2 c 0) r) 4)) % 4 := by unfold tn0; rw [if_pos (by omega)]
        refine m49_l (S0 := S) hc hch.1 hch.2.1 hch.2.2 (S 2 c 3).toNat _ 0 _ _ _ _ _ _ _ (by omega) (by omega) (fun t ht => ?_) rfl rfl rfl rfl rfl rfl rfl (show -3000000 ≤ -((S 1 (S 3 (S 2 c 0) r) 2) + pW S (S 3 (S 2 c 0) r)) ∧ -((S 1 (S 3 (S 2 c 0) r) 2) + pW S (S 3 (S 2 c 0) r)) ≤ 3000000 from by omega) (show -3000000 ≤ S 1 (S 3 (S 2 c 0) r) 3 ∧ S 1 (S 3 (S 2 c 0) r) 3 ≤ 3000000 from by omega) (show -3000000 ≤ -(S 1 (S 3 (S 2 c 0) r) 2) ∧ -(S 1 (S 3 (S 2 c 0) r) 2) ≤ 3000000 from by omega) (show -3000000 ≤ (S 1 (S 3 (S 2 c 0) r) 3) + pH S (S 3 (S 2 c 0) r) ∧ (S 1 (S 3 (S 2 c 0) r) 3) + pH S (S 3 (S 2 c 0) r) ≤ 3000000 from by omega) (show 0 ≤ (4 - (S 1 (S 3 (S 2 c 0) r) 4)) % 4 ∧ (4 - (S 1 (S 3 (S 2 c 0) r) 4)) % 4 < 4 from by omega) (fun S' q0 q1 q2 q3 q4 q5 => h1 (by omega) S' q0 q1 q2 ?_ ?_ ?_)
        · rw [su_tt _ ht, su_tt _ ht, su_tt _ ht, su_tt _ ht, su_tt _ ht, su_tt _ ht, su_tt _ ht, su_tt _ ht, su_tt _ ht, su_tt _ ht]
        · unfold pX; rw [eb]; exact q3
        · unfold pY; rw [eb]; exact q4
        · unfold pT; rw [et, q5, show (((S 2 c 3).toNat : Nat) : Int) = S 2 c 3 from by omega]; rfl
    · show Es G 49 33 [some (aR 0 (0 : Int)), some (aR 2 c), some (aI r), some (aI (S 3 (S 2 c 0) r)), none] [aI (0 : Int)] S _ _
      refine es_if rfl 38 rfl ⟨by decide, by decide⟩ (fun (g33 : ¬ (0 : Int) = (0 : Int)) => absurd g33 (by decide)) (fun (g33 : ¬ (¬ (0 : Int) = (0 : Int))) => ?_)
      refine es_s0 1 (pc' := 37) (ls' := [some (aR 0 (0 : Int)), some (aR 2 c), some (aI r), some (aI (S 3 (S 2 c 0) r)), none]) (st' := [aI (0 : Int)]) (S' := S) rfl ?_
      refine es_iret rfl rfl rfl (Or.inr ⟨rfl, (by decide)⟩) ?_
      exact h0 (by omega)
  · show Es G 49 8 [some (aR 0 (0 : Int)), some (aR 2 c), some (aI r), none, none] [aI (0 : Int)] S _ _
    refine es_if rfl 13 rfl ⟨by decide, by decide⟩ (fun (g8 : ¬ (0 : Int) = (0 : Int)) => absurd g8 (by decide)) (fun (g8 : ¬ (¬ (0 : Int) = (0 : Int))) => ?_)
    refine es_s0 1 (pc' := 12) (ls' := [some (aR 0 (0 : Int)), some (aR 2 c), some (aI r), none, none]) (st' := [aI (0 : Int)]) (S' := S) rfl ?_
    refine es_iret rfl rfl rfl (Or.inr ⟨rfl, (by decide)⟩) ?_
    exact h0 (by omega)
