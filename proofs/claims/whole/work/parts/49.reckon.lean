/-! THE REFERENCE: reckoning and copies -/
/-- two corners of a box -/
def crn (ax ay bx by' : Int) (b : Int × Int × Int × Int) : Prop := ((ax = b.1 ∧ bx = b.2.2.1) ∨ (ax = b.2.2.1 ∧ bx = b.1)) ∧ ((ay = b.2.1 ∧ by' = b.2.2.2) ∨ (ay = b.2.2.2 ∧ by' = b.2.1)) ∧ b.1 ≤ b.2.2.1 ∧ b.2.1 ≤ b.2.2.2 ∧ (-1001000 ≤ b.1 ∧ b.2.2.1 ≤ 1001000) ∧ (-1001000 ≤ b.2.1 ∧ b.2.2.2 ≤ 1001000)
theorem crn_step {ax ay bx by' : Int} {b : Int × Int × Int × Int} (h : crn ax ay bx by' b) : crn (0 - ay) ax (0 - by') bx (-b.2.2.2, b.1, -b.2.1, b.2.2.1) := by
  unfold crn at h ⊢
  dsimp only
  omega
theorem crn_b {ax ay bx by' : Int} {b : Int × Int × Int × Int} (h : crn ax ay bx by' b) : ((-1001000 ≤ ax ∧ ax ≤ 1001000) ∧ (-1001000 ≤ ay ∧ ay ≤ 1001000) ∧ (-1001000 ≤ bx ∧ bx ≤ 1001000) ∧ (-1001000 ≤ by' ∧ by' ≤ 1001000)) ∧ (ax < bx → ax = b.1) ∧ (¬ ax < bx → bx = b.1) ∧ (ay < by' → ay = b.2.1) ∧ (¬ ay < by' → by' = b.2.1) := by
  unfold crn at h
  omega
/-- the reckoned pose -/
def gRk (S : Sg) (X Y T : Int) : Sg := su (su (su S 20 0 23 X) 20 0 24 Y) 20 0 25 T
theorem n59_l {G : Gw} {A S : Sg} {k : Nat} {Q : AQ} (hA : CI A) (hR : RR A S) {c o : Int} (hc : 0 ≤ c ∧ c < A 0 0 6) : ∀ (n : Nat) (ax ay bx by' t q : Int) (b : Int × Int × Int × Int) (v : Option AV) (_ : 0 ≤ q) (_ : q + n = A 2 c 3) (_ : crn ax ay bx by' b) (_ : 0 ≤ t ∧ t < 4) (_ : Q (.inl none) (gRk S ((rotN n b).1 + A 2 c 1) ((rotN n b).2.1 + A 2 c 2) ((t + A 2 c 3) % 4))), Es G 59 72 [some (aR 20 (0 : Int)), some (aI c), some (aI o), some (aL ax), none, some (aL ay), none, some (aL bx), none, some (aL by'), none, some (aI t), some (aI q), v, none] [] S (k + 1) Q := by
  intro n
  induction n using Nat.strongRecOn with
  | _ n ih =>
    intro ax ay bx by' t q b v hq hn hb ht h
    have n2 := hA.1.2.1
    obtain ⟨k1, k2, k3, k4, k5⟩ := hR.2.2.2.1 c hc.1 hc.2
    have hch := (hA.2.2.1 c hc.1 (by omega)).1
    unfold okCh at hch
    obtain ⟨hb0, hb1⟩ := crn_b hb
    refine es_rg (fun hg1 => ?_)
    refine es_sg 5 (p := ((0 : Int) = 0) ∧ (((0 : Int) = 0) ∧ (0 ≤ c ∧ c < 20))) (pc' := 80) (ls' := [some (aR 20 (0 : Int)), some (aI c), some (aI o), some (aL ax), none, some (aL ay), none, some (aL bx), none, some (aL by'), none, some (aI t), some (aI q), v, none]) (st' := [aI (S 34 0 c), aI q]) (S' := S) rfl ⟨rfl, ⟨rfl, (by omega)⟩⟩ ?_
    refine es_icmp rfl 115 rfl ⟨by omega, by omega⟩ (rgI hg1 (t := 34) (i := (0 : Int)) (q := c) (by omega : 0 ≤ (0 : Int) ∧ (0 : Int) < 1) (by omega) rfl) (fun (g80 : (S 34 0 c) ≤ q) => ?_) (fun (g80 : ¬ ((S 34 0 c) ≤ q)) => ?_)
    · refine es_s0 3 (pc' := 119) (ls' := [some (aR 20 (0 : Int)), some (aI c), some (aI o), some (aL ax), none, some (aL ay), none, some (aL bx), none, some (aL by'), none, some (aI t), some (aI q), v, none]) (st' := [aL bx, aL ax, aR 20 (0 : Int)]) (S' := S) rfl ?_
      refine es_lif rfl rfl 127 rfl ⟨by omega, by omega⟩ ⟨by omega, by omega⟩ (fun (g119 : bx ≤ ax) => ?_) (fun (g119 : ¬ (bx ≤ ax)) => ?_)
      · refine es_sg 6 (p := ((0 : Int) = 0) ∧ (((0 : Int) = 0) ∧ (0 ≤ c ∧ c < 20))) (pc' := 136) (ls' := [some (aR 20 (0 : Int)), some (aI c), some (aI o), some (aL ax), none, some (aL ay), none, some (aL bx), none, some (aL by'), none, some (aI t), some (aI q), v, none]) (st' := [aL (bx + (S 32 0 c)), aR 20 (0 : Int)]) (S' := S) rfl ⟨rfl, ⟨rfl, (by omega)⟩⟩ ?_
        refine es_sg 1 (p := ((0 : Int) = 0) ∧ (r64 (bx + (S 32 0 c)))) (pc' := 139) (ls' := [some (aR 20 (0 : Int)), some (aI c), some (aI o), some (aL ax), none, some (aL ay), none, some (aL bx), none, some (aL by'), none, some (aI t), some (aI q), v, none]) (st' := []) (S' := su S 20 0 23 (bx + (S 32 0 c))) rfl ⟨rfl, ⟨by omega, by omega⟩⟩ ?_
        refine es_rg (fun hg2 => ?_)
        refine es_s0 3 (pc' := 144) (ls' := [some (aR 20 (0 : Int)), some (aI c), some (aI o), some (aL ax), none, some (aL ay), none, some (aL bx), none, some (aL by'), none, some (aI t), some (aI q), v, none]) (st' := [aL by', aL ay, aR 20 (0 : Int)]) (S' := su S 20 0 23 (bx + (S 32 0 c))) rfl ?_
        refine es_lif rfl rfl 153 rfl ⟨by omega, by omega⟩ ⟨by omega, by omega⟩ (fun (g144 : by' ≤ ay) => ?_) (fun (g144 : ¬ (by' ≤ ay)) => ?_)
        · refine es_sg 6 (p := ((0 : Int) = 0) ∧ (((0 : Int) = 0) ∧ (0 ≤ c ∧ c < 20))) (pc' := 162) (ls' := [some (aR 20 (0 : Int)), some (aI c), some (aI o), some (aL ax), none, some (aL ay), none, some (aL bx), none, some (aL by'), none, some (aI t), some (aI q), v, none]) (st' := [aL (by' + (S 33 0 c)), aR 20 (0 : Int)]) (S' := su S 20 0 23 (bx + (S 32 0 c))) rfl ⟨rfl, ⟨rfl, (by omega)⟩⟩ ?_
          refine es_sg 1 (p := ((0 : Int) = 0) ∧ (r64 (by' + (S 33 0 c)))) (pc' := 165) (ls' := [some (aR 20 (0 : Int)), some (aI c), some (aI o), some (aL ax), none, some (aL ay), none, some (aL bx), none, some (aL by'), none, some (aI t), some (aI q), v, none]) (st' := []) (S' := su (su S 20 0 23 (bx + (S 32 0 c))) 20 0 24 (by' + (S 33 0 c))) rfl ⟨rfl, ⟨by omega, by omega⟩⟩ ?_
          refine es_rg (fun hg3 => ?_)
          refine es_sg 6 (p := ((0 : Int) = 0) ∧ (((0 : Int) = 0) ∧ (0 ≤ c ∧ c < 20))) (pc' := 174) (ls' := [some (aR 20 (0 : Int)), some (aI c), some (aI o), some (aL ax), none, some (aL ay), none, some (aL bx), none, some (aL by'), none, some (aI t), some (aI q), v, none]) (st' := [aI (S 34 0 c), aI t, aR 20 (0 : Int)]) (S' := su (su S 20 0 23 (bx + (S 32 0 c))) 20 0 24 (by' + (S 33 0 c))) rfl ⟨rfl, ⟨rfl, (by omega)⟩⟩ ?_
          refine es_sg 4 (p := ((0 ≤ (t + (S 34 0 c)) ∧ (t + (S 34 0 c)) < 2147483648) ∧ (0 < (4 : Int) ∧ (4 : Int) < 2147483648)) ∧ (((0 : Int) = 0) ∧ (r32 ((t + (S 34 0 c)) % 4)))) (pc' := 180) (ls' := [some (aR 20 (0 : Int)), some (aI c), some (aI o), some (aL ax), none, some (aL ay), none, some (aL bx), none, some (aL by'), none, some (aI t), some (aI q), v, none]) (st' := []) (S' := su (su (su S 20 0 23 (bx + (S 32 0 c))) 20 0 24 (by' + (S 33 0 c))) 20 0 25 ((t + (S 34 0 c)) % 4)) rfl ⟨(by omega), ⟨rfl, ⟨by omega, by omega⟩⟩⟩ ?_
          refine es_rg (fun hg4 => ?_)
          refine es_vret rfl ?_
          have e0 : n = 0 := by omega
          subst e0
          first | rw [show ax = b.1 from hb1.1 (by omega)] | rw [show bx = b.1 from hb1.2.1 (by omega)]
          first | rw [show ay = b.2.1 from hb1.2.2.1 (by omega)] | rw [show by' = b.2.1 from hb1.2.2.2 (by omega)]
          rw [k2, k3, k4]
          exact h
        · refine es_sg 6 (p := ((0 : Int) = 0) ∧ (((0 : Int) = 0) ∧ (0 ≤ c ∧ c < 20))) (pc' := 161) (ls' := [some (aR 20 (0 : Int)), some (aI c), some (aI o), some (aL ax), none, some (aL ay), none, some (aL bx), none, some (aL by'), none, some (aI t), some (aI q), v, none]) (st' := [aL (S 33 0 c), aL ay, aR 20 (0 : Int)]) (S' := su S 20 0 23 (bx + (S 32 0 c))) rfl ⟨rfl, ⟨rfl, (by omega)⟩⟩ ?_
          refine es_sg 2 (p := ((0 : Int) = 0) ∧ (r64 (ay + (S 33 0 c)))) (pc' := 165) (ls' := [some (aR 20 (0 : Int)), some (aI c), some (aI o), some (aL ax), none, some (aL ay), none, some (aL bx), none, some (aL by'), none, some (aI t), some (aI q), v, none]) (st' := []) (S' := su (su S 20 0 23 (bx + (S 32 0 c))) 20 0 24 (ay + (S 33 0 c))) rfl ⟨rfl, ⟨by omega, by omega⟩⟩ ?_
          refine es_rg (fun hg5 => ?_)
          refine es_sg 6 (p := ((0 : Int) = 0) ∧ (((0 : Int) = 0) ∧ (0 ≤ c ∧ c < 20))) (pc' := 174) (ls' := [some (aR 20 (0 : Int)), some (aI c), some (aI o), some (aL ax), none, some (aL ay), none, some (aL bx), none, some (aL by'), none, some (aI t), some (aI q), v, none]) (st' := [aI (S 34 0 c), aI t, aR 20 (0 : Int)]) (S' := su (su S 20 0 23 (bx + (S 32 0 c))) 20 0 24 (ay + (S 33 0 c))) rfl ⟨rfl, ⟨rfl, (by omega)⟩⟩ ?_
          refine es_sg 4 (p := ((0 ≤ (t + (S 34 0 c)) ∧ (t + (S 34 0 c)) < 2147483648) ∧ (0 < (4 : Int) ∧ (4 : Int) < 2147483648)) ∧ (((0 : Int) = 0) ∧ (r32 ((t + (S 34 0 c)) % 4)))) (pc' := 180) (ls' := [some (aR 20 (0 : Int)), some (aI c), some (aI o), some (aL ax), none, some (aL ay), none, some (aL bx), none, some (aL by'), none, some (aI t), some (aI q), v, none]) (st' := []) (S' := su (su (su S 20 0 23 (bx + (S 32 0 c))) 20 0 24 (ay + (S 33 0 c))) 20 0 25 ((t + (S 34 0 c)) % 4)) rfl ⟨(by omega), ⟨rfl, ⟨by omega, by omega⟩⟩⟩ ?_
          refine es_rg (fun hg6 => ?_)
          refine es_vret rfl ?_
          have e0 : n = 0 := by omega
          subst e0
          first | rw [show ax = b.1 from hb1.1 (by omega)] | rw [show bx = b.1 from hb1.2.1 (by omega)]
          first | rw [show ay = b.2.1 from hb1.2.2.1 (by omega)] | rw [show by' = b.2.1 from hb1.2.2.2 (by omega)]
          rw [k2, k3, k4]
          exact h
      · refine es_sg 6 (p := ((0 : Int) = 0) ∧ (((0 : Int) = 0) ∧ (0 ≤ c ∧ c < 20))) (pc' := 135) (ls' := [some (aR 20 (0 : Int)), some (aI c), some (aI o), some (aL ax), none, some (aL ay), none, some (aL bx), none, some (aL by'), none, some (aI t), some (aI q), v, none]) (st' := [aL (S 32 0 c), aL ax, aR 20 (0 : Int)]) (S' := S) rfl ⟨rfl, ⟨rfl, (by omega)⟩⟩ ?_
        refine es_sg 2 (p := ((0 : Int) = 0) ∧ (r64 (ax + (S 32 0 c)))) (pc' := 139) (ls' := [some (aR 20 (0 : Int)), some (aI c), some (aI o), some (aL ax), none, some (aL ay), none, some (aL bx), none, some (aL by'), none, some (aI t), some (aI q), v, none]) (st' := []) (S' := su S 20 0 23 (ax + (S 32 0 c))) rfl ⟨rfl, ⟨by omega, by omega⟩⟩ ?_
        refine es_rg (fun hg7 => ?_)
        refine es_s0 3 (pc' := 144) (ls' := [some (aR 20 (0 : Int)), some (aI c), some (aI o), some (aL ax), none, some (aL ay), none, some (aL bx), none, some (aL by'), none, some (aI t), some (aI q), v, none]) (st' := [aL by', aL ay, aR 20 (0 : Int)]) (S' := su S 20 0 23 (ax + (S 32 0 c))) rfl ?_
        refine es_lif rfl rfl 153 rfl ⟨by omega, by omega⟩ ⟨by omega, by omega⟩ (fun (g144 : by' ≤ ay) => ?_) (fun (g144 : ¬ (by' ≤ ay)) => ?_)
        · refine es_sg 6 (p := ((0 : Int) = 0) ∧ (((0 : Int) = 0) ∧ (0 ≤ c ∧ c < 20))) (pc' := 162) (ls' := [some (aR 20 (0 : Int)), some (aI c), some (aI o), some (aL ax), none, some (aL ay), none, some (aL bx), none, some (aL by'), none, some (aI t), some (aI q), v, none]) (st' := [aL (by' + (S 33 0 c)), aR 20 (0 : Int)]) (S' := su S 20 0 23 (ax + (S 32 0 c))) rfl ⟨rfl, ⟨rfl, (by omega)⟩⟩ ?_
          refine es_sg 1 (p := ((0 : Int) = 0) ∧ (r64 (by' + (S 33 0 c)))) (pc' := 165) (ls' := [some (aR 20 (0 : Int)), some (aI c), some (aI o), some (aL ax), none, some (aL ay), none, some (aL bx), none, some (aL by'), none, some (aI t), some (aI q), v, none]) (st' := []) (S' := su (su S 20 0 23 (ax + (S 32 0 c))) 20 0 24 (by' + (S 33 0 c))) rfl ⟨rfl, ⟨by omega, by omega⟩⟩ ?_
          refine es_rg (fun hg8 => ?_)
          refine es_sg 6 (p := ((0 : Int) = 0) ∧ (((0 : Int) = 0) ∧ (0 ≤ c ∧ c < 20))) (pc' := 174) (ls' := [some (aR 20 (0 : Int)), some (aI c), some (aI o), some (aL ax), none, some (aL ay), none, some (aL bx), none, some (aL by'), none, some (aI t), some (aI q), v, none]) (st' := [aI (S 34 0 c), aI t, aR 20 (0 : Int)]) (S' := su (su S 20 0 23 (ax + (S 32 0 c))) 20 0 24 (by' + (S 33 0 c))) rfl ⟨rfl, ⟨rfl, (by omega)⟩⟩ ?_
          refine es_sg 4 (p := ((0 ≤ (t + (S 34 0 c)) ∧ (t + (S 34 0 c)) < 2147483648) ∧ (0 < (4 : Int) ∧ (4 : Int) < 2147483648)) ∧ (((0 : Int) = 0) ∧ (r32 ((t + (S 34 0 c)) % 4)))) (pc' := 180) (ls' := [some (aR 20 (0 : Int)), some (aI c), some (aI o), some (aL ax), none, some (aL ay), none, some (aL bx), none, some (aL by'), none, some (aI t), some (aI q), v, none]) (st' := []) (S' := su (su (su S 20 0 23 (ax + (S 32 0 c))) 20 0 24 (by' + (S 33 0 c))) 20 0 25 ((t + (S 34 0 c)) % 4)) rfl ⟨(by omega), ⟨rfl, ⟨by omega, by omega⟩⟩⟩ ?_
          refine es_rg (fun hg9 => ?_)
          refine es_vret rfl ?_
          have e0 : n = 0 := by omega
          subst e0
          first | rw [show ax = b.1 from hb1.1 (by omega)] | rw [show bx = b.1 from hb1.2.1 (by omega)]
          first | rw [show ay = b.2.1 from hb1.2.2.1 (by omega)] | rw [show by' = b.2.1 from hb1.2.2.2 (by omega)]
          rw [k2, k3, k4]
          exact h
        · refine es_sg 6 (p := ((0 : Int) = 0) ∧ (((0 : Int) = 0) ∧ (0 ≤ c ∧ c < 20))) (pc' := 161) (ls' := [some (aR 20 (0 : Int)), some (aI c), some (aI o), some (aL ax), none, some (aL ay), none, some (aL bx), none, some (aL by'), none, some (aI t), some (aI q), v, none]) (st' := [aL (S 33 0 c), aL ay, aR 20 (0 : Int)]) (S' := su S 20 0 23 (ax + (S 32 0 c))) rfl ⟨rfl, ⟨rfl, (by omega)⟩⟩ ?_
          refine es_sg 2 (p := ((0 : Int) = 0) ∧ (r64 (ay + (S 33 0 c)))) (pc' := 165) (ls' := [some (aR 20 (0 : Int)), some (aI c), some (aI o), some (aL ax), none, some (aL ay), none, some (aL bx), none, some (aL by'), none, some (aI t), some (aI q), v, none]) (st' := []) (S' := su (su S 20 0 23 (ax + (S 32 0 c))) 20 0 24 (ay + (S 33 0 c))) rfl ⟨rfl, ⟨by omega, by omega⟩⟩ ?_
          refine es_rg (fun hg10 => ?_)
          refine es_sg 6 (p := ((0 : Int) = 0) ∧ (((0 : Int) = 0) ∧ (0 ≤ c ∧ c < 20))) (pc' := 174) (ls' := [some (aR 20 (0 : Int)), some (aI c), some (aI o), some (aL ax), none, some (aL ay), none, some (aL bx), none, some (aL by'), none, some (aI t), some (aI q), v, none]) (st' := [aI (S 34 0 c), aI t, aR 20 (0 : Int)]) (S' := su (su S 20 0 23 (ax + (S 32 0 c))) 20 0 24 (ay + (S 33 0 c))) rfl ⟨rfl, ⟨rfl, (by omega)⟩⟩ ?_
          refine es_sg 4 (p := ((0 ≤ (t + (S 34 0 c)) ∧ (t + (S 34 0 c)) < 2147483648) ∧ (0 < (4 : Int) ∧ (4 : Int) < 2147483648)) ∧ (((0 : Int) = 0) ∧ (r32 ((t + (S 34 0 c)) % 4)))) (pc' := 180) (ls' := [some (aR 20 (0 : Int)), some (aI c), some (aI o), some (aL ax), none, some (aL ay), none, some (aL bx), none, some (aL by'), none, some (aI t), some (aI q), v, none]) (st' := []) (S' := su (su (su S 20 0 23 (ax + (S 32 0 c))) 20 0 24 (ay + (S 33 0 c))) 20 0 25 ((t + (S 34 0 c)) % 4)) rfl ⟨(by omega), ⟨rfl, ⟨by omega, by omega⟩⟩⟩ ?_
          refine es_rg (fun hg11 => ?_)
          refine es_vret rfl ?_
          have e0 : n = 0 := by omega
          subst e0
          first | rw [show ax = b.1 from hb1.1 (by omega)] | rw [show bx = b.1 from hb1.2.1 (by omega)]
          first | rw [show ay = b.2.1 from hb1.2.2.1 (by omega)] | rw [show by' = b.2.1 from hb1.2.2.2 (by omega)]
          rw [k2, k3, k4]
          exact h
    · refine es_s0 6 (pc' := 91) (ls' := [some (aR 20 (0 : Int)), some (aI c), some (aI o), some (aL (0 - ay)), none, some (aL ay), none, some (aL bx), none, some (aL by'), none, some (aI t), some (aI q), some (aL ax), none]) (st' := []) (S' := S) rfl ?_
      refine es_s0 6 (pc' := 102) (ls' := [some (aR 20 (0 : Int)), some (aI c), some (aI o), some (aL (0 - ay)), none, some (aL ax), none, some (aL bx), none, some (aL by'), none, some (aI t), some (aI q), some (aL bx), none]) (st' := [aL by', aL (0 : Int)]) (S' := S) rfl ?_
      refine es_s0 6 (pc' := 72) (ls' := [some (aR 20 (0 : Int)), some (aI c), some (aI o), some (aL (0 - ay)), none, some (aL ax), none, some (aL (0 - by')), none, some (aL bx), none, some (aI t), some (aI (q + 1)), some (aL bx), none]) (st' := []) (S' := S) rfl ?_
      obtain ⟨n, rfl⟩ : ∃ m, n = m + 1 := ⟨n - 1, by omega⟩
      unfold rotN at h
      exact ih n (by omega) _ _ _ _ t (q + 1) _ _ (by omega) (by omega) (crn_step hb) ht h
theorem n59 {G : Gw} {S : Sg} {k : Nat} {Q : AQ} {A : Sg} (hA : CI A) (hR : RR A S) {c o : Int} (hc : 0 ≤ c ∧ c < A 0 0 6) (ho : 0 ≤ o ∧ o < 60) (hn : near A o) (h : Q (.inl none) (gRk S (pX A c o) (pY A c o) (pT A c o))) : Es G 59 0 (aEnt 15 [aR 20 (0 : Int), aI c, aI o]) [] S (k + 1) Q := by
  have n2 := hA.1.2.1
  obtain ⟨k1, k2, k3, k4, k5⟩ := hR.2.2.2.1 c hc.1 hc.2
  have hch := (hA.2.2.1 c hc.1 (by omega)).1
  unfold okCh at hch
  obtain ⟨a1, a2, a3, a4, a5, a6⟩ := hR.2.1 o ho.1 ho.2
  obtain ⟨c1, c2⟩ := rWH hR ho
  have hx := (hA.2.1 o ho.1 ho.2).1
  have hw := pW_b hx
  have hh := pH_b hx
  unfold okXY at hx
  unfold near at hn
  refine es_rg (fun hgz => ?_)
  have hz := rgZ hgz (t := 35) (i := 0) (q := c) (by omega : (0 : Int) ≤ 0 ∧ (0 : Int) < 1) (by omega) rfl
  refine es_rg (fun hg1 => ?_)
  refine es_sg 6 (p := ((0 : Int) = 0) ∧ (((0 : Int) = 0) ∧ (0 ≤ o ∧ o < 60))) (pc' := 8) (ls' := [some (aR 20 (0 : Int)), some (aI c), some (aI o), some (aL (S 24 0 o)), none, none, none, none, none, none, none, none, none, none, none]) (st' := [aR 20 (0 : Int)]) (S' := S) rfl ⟨rfl, ⟨rfl, (by omega)⟩⟩ ?_
  refine es_sg 6 (p := ((0 : Int) = 0) ∧ (((0 : Int) = 0) ∧ (0 ≤ o ∧ o < 60))) (pc' := 17) (ls' := [some (aR 20 (0 : Int)), some (aI c), some (aI o), some (aL (S 24 0 o)), none, some (aL (S 25 0 o)), none, none, none, none, none, none, none, none, none]) (st' := [aR 20 (0 : Int), aL (S 24 0 o)]) (S' := S) rfl ⟨rfl, ⟨rfl, (by omega)⟩⟩ ?_
  refine es_s0 1 (pc' := 18) (ls' := [some (aR 20 (0 : Int)), some (aI c), some (aI o), some (aL (S 24 0 o)), none, some (aL (S 25 0 o)), none, none, none, none, none, none, none, none, none]) (st' := [aI o, aR 20 (0 : Int), aL (S 24 0 o)]) (S' := S) rfl ?_
  refine es_callV rfl rfl 20 (0 : Int) [aI o] [aL (S 24 0 o)] rfl rfl rfl rfl (Nat.le_of_ble_eq_true rfl) (Nat.le_of_ble_eq_true rfl) (Nat.le_of_ble_eq_true rfl) ?_
  refine n57 (S := S) (i := o) (by omega) (show 0 ≤ S 26 0 o ∧ S 26 0 o < 4 from by omega) ?_
  show Es G 59 21 [some (aR 20 (0 : Int)), some (aI c), some (aI o), some (aL (S 24 0 o)), none, some (aL (S 25 0 o)), none, none, none, none, none, none, none, none, none] [aL (rW S o), aL (S 24 0 o)] S _ _
  refine es_s0 5 (pc' := 28) (ls' := [some (aR 20 (0 : Int)), some (aI c), some (aI o), some (aL (S 24 0 o)), none, some (aL (S 25 0 o)), none, some (aL ((S 24 0 o) + (rW S o))), none, none, none, none, none, none, none]) (st' := [aI o, aR 20 (0 : Int), aL (S 25 0 o)]) (S' := S) rfl ?_
  refine es_callV rfl rfl 20 (0 : Int) [aI o] [aL (S 25 0 o)] rfl rfl rfl rfl (Nat.le_of_ble_eq_true rfl) (Nat.le_of_ble_eq_true rfl) (Nat.le_of_ble_eq_true rfl) ?_
  refine n58 (S := S) (i := o) (by omega) (show 0 ≤ S 26 0 o ∧ S 26 0 o < 4 from by omega) ?_
  show Es G 59 31 [some (aR 20 (0 : Int)), some (aI c), some (aI o), some (aL (S 24 0 o)), none, some (aL (S 25 0 o)), none, some (aL ((S 24 0 o) + (rW S o))), none, none, none, none, none, none, none] [aL (rH S o), aL (S 25 0 o)] S _ _
  refine es_sg 6 (p := ((0 : Int) = 0) ∧ (((0 : Int) = 0) ∧ (0 ≤ o ∧ o < 60))) (pc' := 40) (ls' := [some (aR 20 (0 : Int)), some (aI c), some (aI o), some (aL (S 24 0 o)), none, some (aL (S 25 0 o)), none, some (aL ((S 24 0 o) + (rW S o))), none, some (aL ((S 25 0 o) + (rH S o))), none, none, none, none, none]) (st' := [aI (S 26 0 o)]) (S' := S) rfl ⟨rfl, ⟨rfl, (by omega)⟩⟩ ?_
  refine es_sg 5 (p := ((0 : Int) = 0) ∧ (((0 : Int) = 0) ∧ (0 ≤ c ∧ c < 20))) (pc' := 48) (ls' := [some (aR 20 (0 : Int)), some (aI c), some (aI o), some (aL (S 24 0 o)), none, some (aL (S 25 0 o)), none, some (aL ((S 24 0 o) + (rW S o))), none, some (aL ((S 25 0 o) + (rH S o))), none, some (aI (S 26 0 o)), none, none, none]) (st' := [aI (S 35 0 c)]) (S' := S) rfl ⟨rfl, ⟨rfl, (by omega)⟩⟩ ?_
  refine es_if rfl 69 rfl (r32_z (rgZ hg1 (t := 35) (i := (0 : Int)) (q := c) (by omega : 0 ≤ (0 : Int) ∧ (0 : Int) < 1) (by omega) rfl)) (fun (g48 : (S 35 0 c) = (0 : Int)) => ?_) (fun (g48 : ¬ ((S 35 0 c) = (0 : Int))) => ?_)
  · refine es_s0 2 (pc' := 72) (ls' := [some (aR 20 (0 : Int)), some (aI c), some (aI o), some (aL (S 24 0 o)), none, some (aL (S 25 0 o)), none, some (aL ((S 24 0 o) + (rW S o))), none, some (aL ((S 25 0 o) + (rH S o))), none, some (aI (S 26 0 o)), some (aI (0 : Int)), none, none]) (st' := []) (S' := S) rfl ?_
    have eb : box0 A c o = (A 1 o 2, A 1 o 3, A 1 o 2 + pW A o, A 1 o 3 + pH A o) := by unfold box0; rw [if_neg (by omega)]
    have et : tn0 A c o = A 1 o 4 := by unfold tn0; rw [if_neg (by omega)]
    unfold pX pY pT at h
    rw [eb, et] at h
    refine n59_l hA hR hc (A 2 c 3).toNat _ _ _ _ _ 0 _ _ (by omega) (by omega) ?_ (by omega) (by rw [a5]; exact h)
    unfold crn
    dsimp only
    omega
  · refine es_s0 6 (pc' := 58) (ls' := [some (aR 20 (0 : Int)), some (aI c), some (aI o), some (aL (0 - (S 24 0 o))), none, some (aL (S 25 0 o)), none, some (aL ((S 24 0 o) + (rW S o))), none, some (aL ((S 25 0 o) + (rH S o))), none, some (aI (S 26 0 o)), none, none, none]) (st' := [aL ((S 24 0 o) + (rW S o)), aL (0 : Int)]) (S' := S) rfl ?_
    refine es_s0 6 (pc' := 66) (ls' := [some (aR 20 (0 : Int)), some (aI c), some (aI o), some (aL (0 - (S 24 0 o))), none, some (aL (S 25 0 o)), none, some (aL (0 - ((S 24 0 o) + (rW S o)))), none, some (aL ((S 25 0 o) + (rH S o))), none, some (aI (S 26 0 o)), none, none, none]) (st' := [aI (4 : Int), aI (4 - (S 26 0 o))]) (S' := S) rfl ?_
    refine es_sg 4 (p := (0 ≤ (4 - (S 26 0 o)) ∧ (4 - (S 26 0 o)) < 2147483648) ∧ (0 < (4 : Int) ∧ (4 : Int) < 2147483648)) (pc' := 72) (ls' := [some (aR 20 (0 : Int)), some (aI c), some (aI o), some (aL (0 - (S 24 0 o))), none, some (aL (S 25 0 o)), none, some (aL (0 - ((S 24 0 o) + (rW S o)))), none, some (aL ((S 25 0 o) + (rH S o))), none, some (aI ((4 - (S 26 0 o)) % 4)), some (aI (0 : Int)), none, none]) (st' := []) (S' := S) rfl (by omega) ?_
    have eb : box0 A c o = (-(A 1 o 2 + pW A o), A 1 o 3, -A 1 o 2, A 1 o 3 + pH A o) := by unfold box0; rw [if_pos (by omega)]
    have et : tn0 A c o = (4 - A 1 o 4) % 4 := by unfold tn0; rw [if_pos (by omega)]
    unfold pX pY pT at h
    rw [eb, et] at h
    refine n59_l hA hR hc (A 2 c 3).toNat _ _ _ _ _ 0 _ _ (by omega) (by omega) ?_ (by omega) (by rw [a5]; exact h)
    unfold crn
    dsimp only
    omega
