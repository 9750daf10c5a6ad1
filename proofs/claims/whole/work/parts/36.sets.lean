/-! THE CLASS: sets, rooms, what is asked of a part -/
theorem m72 {G : Gw} {S : Sg} {k : Nat} {Q : AQ} {m p : Int} (hm : r64 m) (hp : 0 ≤ p ∧ p < 60) (h1 : bt m p = true → Q (.inl (some (aI 1))) S) (h0 : ¬ bt m p = true → Q (.inl (some (aI 0))) S) : Es G 72 0 (aEnt 3 [aL m, aI p]) [] S (k + 0) Q := by
  refine es_rg (fun hg1 => ?_)
  refine es_s0 6 (pc' := 6) (ls' := [some (aL m), none, some (aI p)]) (st' := [aL (1 : Int), aL (lAnd (lShr m p) (1 : Int))]) (S' := S) rfl ?_
  refine es_lif rfl rfl 14 rfl (r64_of _) ⟨by decide, by decide⟩ (fun (g6 : ¬ (lAnd (lShr m p) (1 : Int)) = (1 : Int)) => ?_) (fun (g6 : ¬ (¬ (lAnd (lShr m p) (1 : Int)) = (1 : Int))) => ?_)
  · refine es_s0 1 (pc' := 15) (ls' := [some (aL m), none, some (aI p)]) (st' := [aI (0 : Int)]) (S' := S) rfl ?_
    refine es_iret rfl rfl rfl (Or.inr ⟨rfl, (by decide)⟩) ?_
    exact h0 (fun q => by have := (isIn_iff (by omega)).mpr q; omega)
  · refine es_s0 2 (pc' := 15) (ls' := [some (aL m), none, some (aI p)]) (st' := [aI (1 : Int)]) (S' := S) rfl ?_
    refine es_iret rfl rfl rfl (Or.inr ⟨rfl, (by decide)⟩) ?_
    exact h1 ((isIn_iff (by omega)).mp (by omega))
theorem m73_l {G : Gw} {S : Sg} {k : Nat} {Q : AQ} {m kk : Int} (hm : r64 m) (hk : r32 kk) : ∀ (n : Nat) (p b : Int) (_ : 0 ≤ p) (_ : p + n = 60) (_ : 0 ≤ b ∧ b ≤ p) (_ : Q (.inl (some (aI (nthF (bt m) n p (kk - b))))) S), Es G 73 5 [some (aL m), none, some (aI kk), some (aI b), some (aI p)] [] S (k + 1) Q := by
  intro n
  induction n using Nat.strongRecOn with
  | _ n ih =>
    intro p b hp hn hb h
    refine es_rg (fun hg1 => ?_)
    refine es_s0 2 (pc' := 9) (ls' := [some (aL m), none, some (aI kk), some (aI b), some (aI p)]) (st' := [aI (60 : Int), aI p]) (S' := S) rfl ?_
    refine es_icmp rfl 38 rfl ⟨by omega, by omega⟩ ⟨by decide, by decide⟩ (fun (g9 : (60 : Int) ≤ p) => ?_) (fun (g9 : ¬ ((60 : Int) ≤ p)) => ?_)
    · refine es_s0 1 (pc' := 39) (ls' := [some (aL m), none, some (aI kk), some (aI b), some (aI p)]) (st' := [aI (-1 : Int)]) (S' := S) rfl ?_
      refine es_iret rfl rfl rfl (Or.inl rfl) ?_
      have e : n = 0 := by omega
      subst e
      exact h
    · refine es_s0 2 (pc' := 15) (ls' := [some (aL m), none, some (aI kk), some (aI b), some (aI p)]) (st' := [aI p, aL m]) (S' := S) rfl ?_
      refine es_callS rfl rfl [aL m, aI p] [] rfl rfl (Nat.le_of_ble_eq_true rfl) (Nat.le_of_ble_eq_true rfl) (Nat.le_of_ble_eq_true rfl) ?_
      refine m72 (m := m) (p := p) (by assumption) (by omega) (fun hc15 => ?_) (fun hc15 => ?_)
      · show Es G 73 18 [some (aL m), none, some (aI kk), some (aI b), some (aI p)] [aI (1 : Int)] S _ _
        refine es_if rfl 32 rfl ⟨by decide, by decide⟩ (fun (g18 : (1 : Int) = (0 : Int)) => absurd g18 (by decide)) (fun (g18 : ¬ ((1 : Int) = (0 : Int))) => ?_)
        refine es_s0 2 (pc' := 23) (ls' := [some (aL m), none, some (aI kk), some (aI b), some (aI p)]) (st' := [aI kk, aI b]) (S' := S) rfl ?_
        refine es_icmp rfl 29 rfl ⟨by omega, by omega⟩ hk (fun (g23 : ¬ b = kk) => ?_) (fun (g23 : ¬ (¬ b = kk)) => ?_)
        · refine es_s0 3 (pc' := 5) (ls' := [some (aL m), none, some (aI kk), some (aI (b + 1)), some (aI (p + 1))]) (st' := []) (S' := S) rfl ?_
          obtain ⟨n, rfl⟩ : ∃ n', n = n' + 1 := ⟨n - 1, by omega⟩; refine ih n (by omega) (p + 1) (b + 1) (by omega) (by omega) (by omega) ?_; rw [nthF_next hc15 (by omega)] at h; rw [show kk - (b + 1) = kk - b - 1 from by omega]; exact h
        · refine es_s0 1 (pc' := 28) (ls' := [some (aL m), none, some (aI kk), some (aI b), some (aI p)]) (st' := [aI p]) (S' := S) rfl ?_
          refine es_iret rfl rfl rfl (Or.inl rfl) ?_
          obtain ⟨n, rfl⟩ : ∃ n', n = n' + 1 := ⟨n - 1, by omega⟩; rw [nthF_hit hc15 (by omega)] at h; exact h
      · show Es G 73 18 [some (aL m), none, some (aI kk), some (aI b), some (aI p)] [aI (0 : Int)] S _ _
        refine es_if rfl 32 rfl ⟨by decide, by decide⟩ (fun (g18 : (0 : Int) = (0 : Int)) => ?_) (fun (g18 : ¬ ((0 : Int) = (0 : Int))) => absurd g18 (by decide))
        refine es_s0 2 (pc' := 5) (ls' := [some (aL m), none, some (aI kk), some (aI b), some (aI (p + 1))]) (st' := []) (S' := S) rfl ?_
        obtain ⟨n, rfl⟩ : ∃ n', n = n' + 1 := ⟨n - 1, by omega⟩; refine ih n (by omega) (p + 1) (b) (by omega) (by omega) (by omega) ?_; rw [nthF_skip hc15] at h; exact h
theorem m73 {G : Gw} {S : Sg} {k : Nat} {Q : AQ} {m kk : Int} (hm : r64 m) (hk : r32 kk) (h : Q (.inl (some (aI (nthF (bt m) 60 0 kk)))) S) : Es G 73 0 (aEnt 5 [aL m, aI kk]) [] S (k + 1) Q := by
  refine es_rg (fun hg1 => ?_)
  refine es_s0 4 (pc' := 5) (ls' := [some (aL m), none, some (aI kk), some (aI (0 : Int)), some (aI (0 : Int))]) (st' := []) (S' := S) rfl ?_
  exact m73_l hm hk 60 0 0 (by omega) (by omega) (by omega) (by rw [show kk - 0 = kk from by omega]; exact h)
theorem m74 {G : Gw} {S : Sg} {k : Nat} {Q : AQ} {kk : Int} (hk : r32 kk) (h : Q (.inl (some (aI (nthF (bt (S 0 0 8)) 60 0 kk)))) S) : Es G 74 0 (aEnt 2 [aR 0 (0 : Int), aI kk]) [] S (k + 2) Q := by
  refine es_rg (fun hg1 => ?_)
  refine es_sg 3 (p := (0 : Int) = 0) (pc' := 5) (ls' := [some (aR 0 (0 : Int)), some (aI kk)]) (st' := [aI kk, aL (S 0 0 8)]) (S' := S) rfl rfl ?_
  refine es_callS rfl rfl [aL (S 0 0 8), aI kk] [] rfl rfl (Nat.le_of_ble_eq_true rfl) (Nat.le_of_ble_eq_true rfl) (Nat.le_of_ble_eq_true rfl) ?_
  refine m73 (rgL hg1 (t := 0) (i := (0 : Int)) (q := (8 : Int)) (by omega : 0 ≤ (0 : Int) ∧ (0 : Int) < 1) (by omega) rfl) (by assumption) ?_
  show Es G 74 8 [some (aR 0 (0 : Int)), some (aI kk)] [aI (nthF (bt (S 0 0 8)) 60 0 kk)] S _ _
  refine es_iret rfl rfl rfl (Or.inl rfl) ?_
  exact h
/-- a part more in a room -/
def fMemb (S : Sg) (r p : Int) : Sg := su S 4 r 4 (lOr (S 4 r 4) (lShl 1 p))
theorem m82 {G : Gw} {S : Sg} {k : Nat} {Q : AQ} (hnp : 0 ≤ S 0 0 5 ∧ S 0 0 5 ≤ 60) (hnr : 0 ≤ S 0 0 7 ∧ S 0 0 7 ≤ 10) {r p : Int} (hr : r32 r) (hp : r32 p) (t1 : ¬ ((0 ≤ r ∧ r < S 0 0 7) ∧ (0 ≤ p ∧ p < S 0 0 5)) → Q (.inr 1) S) (h0 : (0 ≤ r ∧ r < S 0 0 7) ∧ (0 ≤ p ∧ p < S 0 0 5) → bt (S 4 r 4) p = true → Q (.inl (some (aI 0))) S) (h1 : (0 ≤ r ∧ r < S 0 0 7) ∧ (0 ≤ p ∧ p < S 0 0 5) → ¬ bt (S 4 r 4) p = true → Q (.inl (some (aI 1))) (fMemb S r p)) : Es G 82 0 (aEnt 3 [aR 0 (0 : Int), aI r, aI p]) [] S (k + 2) Q := by
  refine es_rg (fun hg1 => ?_)
  refine es_s0 2 (pc' := 2) (ls' := [some (aR 0 (0 : Int)), some (aI r), some (aI p)]) (st' := [aI r, aR 0 (0 : Int)]) (S' := S) rfl ?_
  refine es_callV rfl rfl 0 (0 : Int) [aI r] [] rfl rfl rfl rfl (Nat.le_of_ble_eq_true rfl) (Nat.le_of_ble_eq_true rfl) (Nat.le_of_ble_eq_true rfl) ?_
  refine m81 (n := r) (by assumption) (fun hc2 => ?_) (fun hc2 => ⟨⟨_, rfl, rfl, rfl⟩, ?_⟩)
  · show Es G 82 5 [some (aR 0 (0 : Int)), some (aI r), some (aI p)] [] S _ _
    refine es_s0 2 (pc' := 7) (ls' := [some (aR 0 (0 : Int)), some (aI r), some (aI p)]) (st' := [aI p, aR 0 (0 : Int)]) (S' := S) rfl ?_
    refine es_callV rfl rfl 0 (0 : Int) [aI p] [] rfl rfl rfl rfl (Nat.le_of_ble_eq_true rfl) (Nat.le_of_ble_eq_true rfl) (Nat.le_of_ble_eq_true rfl) ?_
    refine m17 (n := p) (by assumption) (fun hc7 => ?_) (fun hc7 => ⟨⟨_, rfl, rfl, rfl⟩, ?_⟩)
    · show Es G 82 10 [some (aR 0 (0 : Int)), some (aI r), some (aI p)] [] S _ _
      refine es_sg 6 (p := ((0 : Int) = 0) ∧ ((((0 : Int) = 0) ∧ (0 ≤ r ∧ r < 10)) ∧ (0 ≤ r ∧ r < 10))) (pc' := 20) (ls' := [some (aR 0 (0 : Int)), some (aI r), some (aI p)]) (st' := [aI p, aL (S 4 r 4)]) (S' := S) rfl ⟨rfl, ⟨rfl, (by omega)⟩, (by omega)⟩ ?_
      refine es_callS rfl rfl [aL (S 4 r 4), aI p] [] rfl rfl (Nat.le_of_ble_eq_true rfl) (Nat.le_of_ble_eq_true rfl) (Nat.le_of_ble_eq_true rfl) ?_
      refine m72 (m := (S 4 r 4)) (p := p) (rgL hg1 (t := 4) (i := r) (q := (4 : Int)) (by omega : 0 ≤ r ∧ r < 10) (by omega) rfl) (by omega) (fun hc20 => ?_) (fun hc20 => ?_)
      · show Es G 82 23 [some (aR 0 (0 : Int)), some (aI r), some (aI p)] [aI (1 : Int)] S _ _
        refine es_if rfl 28 rfl ⟨by decide, by decide⟩ (fun (g23 : (1 : Int) = (0 : Int)) => absurd g23 (by decide)) (fun (g23 : ¬ ((1 : Int) = (0 : Int))) => ?_)
        refine es_s0 1 (pc' := 27) (ls' := [some (aR 0 (0 : Int)), some (aI r), some (aI p)]) (st' := [aI (0 : Int)]) (S' := S) rfl ?_
        refine es_iret rfl rfl rfl (Or.inr ⟨rfl, (by decide)⟩) ?_
        first | exact t1 (by omega) | exact h0 (by omega) (by assumption) | exact h1 (by omega) (by assumption)
      · show Es G 82 23 [some (aR 0 (0 : Int)), some (aI r), some (aI p)] [aI (0 : Int)] S _ _
        refine es_if rfl 28 rfl ⟨by decide, by decide⟩ (fun (g23 : (0 : Int) = (0 : Int)) => ?_) (fun (g23 : ¬ ((0 : Int) = (0 : Int))) => absurd g23 (by decide))
        refine es_sg 6 (p := ((0 : Int) = 0) ∧ ((((0 : Int) = 0) ∧ (0 ≤ r ∧ r < 10)) ∧ (0 ≤ r ∧ r < 10))) (pc' := 38) (ls' := [some (aR 0 (0 : Int)), some (aI r), some (aI p)]) (st' := [aL (S 4 r 4), aR 4 r]) (S' := S) rfl ⟨rfl, ⟨rfl, (by omega)⟩, (by omega)⟩ ?_
        refine es_sg 5 (p := (0 ≤ r ∧ r < 10) ∧ (r64 (lOr (S 4 r 4) (lShl (1 : Int) p)))) (pc' := 45) (ls' := [some (aR 0 (0 : Int)), some (aI r), some (aI p)]) (st' := []) (S' := su S 4 r 4 (lOr (S 4 r 4) (lShl (1 : Int) p))) rfl ⟨(by omega), (r64_of _)⟩ ?_
        refine es_rg (fun hg2 => ?_)
        refine es_s0 1 (pc' := 46) (ls' := [some (aR 0 (0 : Int)), some (aI r), some (aI p)]) (st' := [aI (1 : Int)]) (S' := su S 4 r 4 (lOr (S 4 r 4) (lShl (1 : Int) p))) rfl ?_
        refine es_iret rfl rfl rfl (Or.inr ⟨rfl, (by decide)⟩) ?_
        first | exact t1 (by omega) | exact h0 (by omega) (by assumption) | exact h1 (by omega) (by assumption)
    · first | exact t1 (by omega) | exact h0 (by omega) (by assumption) | exact h1 (by omega) (by assumption)
  · first | exact t1 (by omega) | exact h0 (by omega) (by assumption) | exact h1 (by omega) (by assumption)
/-- a part lies in a room -/
def inRm (S : Sg) (r p : Int) : Prop := (S 4 r 0 ≤ S 1 p 2 ∧ S 1 p 2 + pW S p ≤ S 4 r 2) ∧ (S 4 r 1 ≤ S 1 p 3 ∧ S 1 p 3 + pH S p ≤ S 4 r 3)
/-- a part's place and size are small -/
def okXY (S : Sg) (i : Int) : Prop := (0 ≤ S 1 i 4 ∧ S 1 i 4 < 4) ∧ (-4000000 ≤ S 1 i 2 ∧ S 1 i 2 ≤ 4000000) ∧ (-4000000 ≤ S 1 i 3 ∧ S 1 i 3 ≤ 4000000) ∧ (0 ≤ S 1 i 0 ∧ S 1 i 0 ≤ 1000) ∧ (0 ≤ S 1 i 1 ∧ S 1 i 1 ≤ 1000)
theorem pW_b {S : Sg} {i : Int} (h : okXY S i) : 0 ≤ pW S i ∧ pW S i ≤ 1000 := by
  unfold okXY at h
  unfold pW
  split <;> omega
theorem pH_b {S : Sg} {i : Int} (h : okXY S i) : 0 ≤ pH S i ∧ pH S i ≤ 1000 := by
  unfold okXY at h
  unfold pH
  split <;> omega
theorem m86 {G : Gw} {S : Sg} {k : Nat} {Q : AQ} {r p : Int} (hr : 0 ≤ r ∧ r < 10) (hp : 0 ≤ p ∧ p < 60) (hxy : okXY S p) (h1 : inRm S r p → Q (.inl (some (aI 1))) S) (h0 : ¬ inRm S r p → Q (.inl (some (aI 0))) S) : Es G 86 0 (aEnt 2 [aR 4 r, aR 1 p]) [] S (k + 1) Q := by
  have hw := pW_b hxy
  have hh := pH_b hxy
  unfold okXY at hxy
  refine es_rg (fun hg1 => ?_)
  refine es_sg 4 (p := (0 ≤ p ∧ p < 60) ∧ (0 ≤ r ∧ r < 10)) (pc' := 8) (ls' := [some (aR 4 r), some (aR 1 p)]) (st' := [aL (S 4 r 0), aL (S 1 p 2)]) (S' := S) rfl ⟨(by omega), (by omega)⟩ ?_
  refine es_lif rfl rfl 52 rfl (rgL hg1 (t := 1) (i := p) (q := (2 : Int)) (by omega : 0 ≤ p ∧ p < 60) (by omega) rfl) (rgL hg1 (t := 4) (i := r) (q := (0 : Int)) (by omega : 0 ≤ r ∧ r < 10) (by omega) rfl) (fun (g8 : (S 1 p 2) < (S 4 r 0)) => ?_) (fun (g8 : ¬ ((S 1 p 2) < (S 4 r 0))) => ?_)
  · refine es_s0 1 (pc' := 53) (ls' := [some (aR 4 r), some (aR 1 p)]) (st' := [aI (0 : Int)]) (S' := S) rfl ?_
    refine es_iret rfl rfl rfl (Or.inr ⟨rfl, (by decide)⟩) ?_
    unfold inRm at h1 h0; first | exact h1 (by omega) | exact h0 (by omega)
  · refine es_s0 1 (pc' := 13) (ls' := [some (aR 4 r), some (aR 1 p)]) (st' := [aR 1 p]) (S' := S) rfl ?_
    refine es_callV rfl rfl 1 p [] [] rfl rfl rfl (show 0 ≤ p ∧ p < 60 from (by omega)) (Nat.le_of_ble_eq_true rfl) (Nat.le_of_ble_eq_true rfl) (Nat.le_of_ble_eq_true rfl) ?_
    refine m43 (i := p) (by omega) (show 0 ≤ S 1 p 4 ∧ S 1 p 4 < 4 from by omega) ?_
    show Es G 86 16 [some (aR 4 r), some (aR 1 p)] [aL ((S 1 p 2) + pW S p)] S _ _
    refine es_sg 2 (p := 0 ≤ r ∧ r < 10) (pc' := 20) (ls' := [some (aR 4 r), some (aR 1 p)]) (st' := [aL (S 4 r 2), aL ((S 1 p 2) + pW S p)]) (S' := S) rfl (by omega) ?_
    refine es_lif rfl rfl 52 rfl ⟨by omega, by omega⟩ (rgL hg1 (t := 4) (i := r) (q := (2 : Int)) (by omega : 0 ≤ r ∧ r < 10) (by omega) rfl) (fun (g20 : (S 4 r 2) < ((S 1 p 2) + pW S p)) => ?_) (fun (g20 : ¬ ((S 4 r 2) < ((S 1 p 2) + pW S p))) => ?_)
    · refine es_s0 1 (pc' := 53) (ls' := [some (aR 4 r), some (aR 1 p)]) (st' := [aI (0 : Int)]) (S' := S) rfl ?_
      refine es_iret rfl rfl rfl (Or.inr ⟨rfl, (by decide)⟩) ?_
      unfold inRm at h1 h0; first | exact h1 (by omega) | exact h0 (by omega)
    · refine es_sg 4 (p := (0 ≤ p ∧ p < 60) ∧ (0 ≤ r ∧ r < 10)) (pc' := 32) (ls' := [some (aR 4 r), some (aR 1 p)]) (st' := [aL (S 4 r 1), aL (S 1 p 3)]) (S' := S) rfl ⟨(by omega), (by omega)⟩ ?_
      refine es_lif rfl rfl 52 rfl (rgL hg1 (t := 1) (i := p) (q := (3 : Int)) (by omega : 0 ≤ p ∧ p < 60) (by omega) rfl) (rgL hg1 (t := 4) (i := r) (q := (1 : Int)) (by omega : 0 ≤ r ∧ r < 10) (by omega) rfl) (fun (g32 : (S 1 p 3) < (S 4 r 1)) => ?_) (fun (g32 : ¬ ((S 1 p 3) < (S 4 r 1))) => ?_)
      · refine es_s0 1 (pc' := 53) (ls' := [some (aR 4 r), some (aR 1 p)]) (st' := [aI (0 : Int)]) (S' := S) rfl ?_
        refine es_iret rfl rfl rfl (Or.inr ⟨rfl, (by decide)⟩) ?_
        unfold inRm at h1 h0; first | exact h1 (by omega) | exact h0 (by omega)
      · refine es_s0 1 (pc' := 37) (ls' := [some (aR 4 r), some (aR 1 p)]) (st' := [aR 1 p]) (S' := S) rfl ?_
        refine es_callV rfl rfl 1 p [] [] rfl rfl rfl (show 0 ≤ p ∧ p < 60 from (by omega)) (Nat.le_of_ble_eq_true rfl) (Nat.le_of_ble_eq_true rfl) (Nat.le_of_ble_eq_true rfl) ?_
        refine m44 (i := p) (by omega) (show 0 ≤ S 1 p 4 ∧ S 1 p 4 < 4 from by omega) ?_
        show Es G 86 40 [some (aR 4 r), some (aR 1 p)] [aL ((S 1 p 3) + pH S p)] S _ _
        refine es_sg 2 (p := 0 ≤ r ∧ r < 10) (pc' := 44) (ls' := [some (aR 4 r), some (aR 1 p)]) (st' := [aL (S 4 r 3), aL ((S 1 p 3) + pH S p)]) (S' := S) rfl (by omega) ?_
        refine es_lif rfl rfl 52 rfl ⟨by omega, by omega⟩ (rgL hg1 (t := 4) (i := r) (q := (3 : Int)) (by omega : 0 ≤ r ∧ r < 10) (by omega) rfl) (fun (g44 : (S 4 r 3) < ((S 1 p 3) + pH S p)) => ?_) (fun (g44 : ¬ ((S 4 r 3) < ((S 1 p 3) + pH S p))) => ?_)
        · refine es_s0 1 (pc' := 53) (ls' := [some (aR 4 r), some (aR 1 p)]) (st' := [aI (0 : Int)]) (S' := S) rfl ?_
          refine es_iret rfl rfl rfl (Or.inr ⟨rfl, (by decide)⟩) ?_
          unfold inRm at h1 h0; first | exact h1 (by omega) | exact h0 (by omega)
        · refine es_s0 2 (pc' := 53) (ls' := [some (aR 4 r), some (aR 1 p)]) (st' := [aI (1 : Int)]) (S' := S) rfl ?_
          refine es_iret rfl rfl rfl (Or.inr ⟨rfl, (by decide)⟩) ?_
          unfold inRm at h1 h0; first | exact h1 (by omega) | exact h0 (by omega)
/-- the members that don't lie in their room -/
noncomputable def outF (S : Sg) (r : Int) (p : Int) : Bool := bt (S 4 r 4) p && !(@decide (inRm S r p) (Classical.propDecidable _))
theorem outF_step {S : Sg} {r p m : Int} (hp : 0 ≤ p ∧ p < 60) (hm : ∀ q, 0 ≤ q → q < 60 → bt m q = (outF S r q && decide (q < p))) (h : outF S r p = true) : ∀ q, 0 ≤ q → q < 60 → bt (lOr m (lShl 1 p)) q = (outF S r q && decide (q < p + 1)) := by
  intro q h1 h2
  rw [bt_or (by omega) (by omega), hm q h1 h2]
  by_cases e : q = p
  · subst e
    have : q < q + 1 := by omega
    simp [h, this]
  · have : (q < p + 1) ↔ q < p := by omega
    simp [e, this]
theorem outF_skip {S : Sg} {r p m : Int} (hm : ∀ q, 0 ≤ q → q < 60 → bt m q = (outF S r q && decide (q < p))) (h : ¬ outF S r p = true) : ∀ q, 0 ≤ q → q < 60 → bt m q = (outF S r q && decide (q < p + 1)) := by
  intro q h1 h2
  rw [hm q h1 h2]
  by_cases e : q = p
  · subst e; simp at h; simp [h]
  · have : (q < p + 1) ↔ q < p := by omega
    simp [this]
theorem outF_zero {S : Sg} {r : Int} : ∀ q : Int, 0 ≤ q → q < 60 → bt 0 q = (outF S r q && decide (q < 0)) := by
  intro q h1 h2
  have : ¬ q < 0 := by omega
  rw [bt_zero]
  simp [this]
theorem outF_end {S : Sg} {r kk m : Int} (hnp : 0 ≤ S 0 0 5 ∧ S 0 0 5 ≤ 60) (hm : ∀ q, 0 ≤ q → q < 60 → bt m q = (outF S r q && decide (q < S 0 0 5))) : nthF (bt m) 60 0 kk = nthF (outF S r) (S 0 0 5).toNat 0 kk := by
  have h := nthF_cut (f := bt m) (S 0 0 5).toNat (60 - (S 0 0 5).toNat) 0 (c := kk) (fun q h1 h2 => by
    rw [hm q (by omega) (by omega)]
    have : ¬ q < S 0 0 5 := by omega
    simp [this])
  rw [show (S 0 0 5).toNat + (60 - (S 0 0 5).toNat) = 60 from by omega] at h
  rw [h]
  refine nthF_ext _ _ (fun q h1 h2 => ?_)
  rw [hm q (by omega) (by omega)]
  have : q < S 0 0 5 := by omega
  simp [this]
theorem outF_iff {S : Sg} {r p : Int} : outF S r p = true ↔ bt (S 4 r 4) p = true ∧ ¬ inRm S r p := by
  unfold outF
  by_cases h : inRm S r p <;> simp [h]
theorem m87_l {G : Gw} {S : Sg} {k : Nat} {Q : AQ} (hnp : 0 ≤ S 0 0 5 ∧ S 0 0 5 ≤ 60) (hnr : 0 ≤ S 0 0 7 ∧ S 0 0 7 ≤ 10) {r kk : Int} (hr : 0 ≤ r ∧ r < S 0 0 7) (hk : r32 kk) (hxy : ∀ i, 0 ≤ i → i < 60 → okXY S i) : ∀ (n : Nat) (p m : Int) (_ : 0 ≤ p) (_ : p + n = S 0 0 5) (_ : r64 m) (_ : ∀ q, 0 ≤ q → q < 60 → bt m q = (outF S r q && decide (q < p))) (_ : ∀ m, (∀ q, 0 ≤ q → q < 60 → bt m q = (outF S r q && decide (q < S 0 0 5))) → Q (.inl (some (aI (nthF (bt m) 60 0 kk)))) S), Es G 87 10 [some (aR 0 (0 : Int)), some (aI r), some (aI kk), some (aL m), none, some (aI p)] [] S (k + 2) Q := by
  intro n
  induction n using Nat.strongRecOn with
  | _ n ih =>
    intro p m hp hn hm hmm h
    refine es_rg (fun hg1 => ?_)
    refine es_sg 3 (p := (0 : Int) = 0) (pc' := 16) (ls' := [some (aR 0 (0 : Int)), some (aI r), some (aI kk), some (aL m), none, some (aI p)]) (st' := [aI (S 0 0 5), aI p]) (S' := S) rfl rfl ?_
    refine es_icmp rfl 68 rfl ⟨by omega, by omega⟩ (rgI hg1 (t := 0) (i := (0 : Int)) (q := (5 : Int)) (by omega : 0 ≤ (0 : Int) ∧ (0 : Int) < 1) (by omega) rfl) (fun (g16 : (S 0 0 5) ≤ p) => ?_) (fun (g16 : ¬ ((S 0 0 5) ≤ p)) => ?_)
    · refine es_s0 2 (pc' := 70) (ls' := [some (aR 0 (0 : Int)), some (aI r), some (aI kk), some (aL m), none, some (aI p)]) (st' := [aI kk, aL m]) (S' := S) rfl ?_
      refine es_callS rfl rfl [aL m, aI kk] [] rfl rfl (Nat.le_of_ble_eq_true rfl) (Nat.le_of_ble_eq_true rfl) (Nat.le_of_ble_eq_true rfl) ?_
      refine m73 (by assumption) (by assumption) ?_
      show Es G 87 73 [some (aR 0 (0 : Int)), some (aI r), some (aI kk), some (aL m), none, some (aI p)] [aI (nthF (bt m) 60 0 kk)] S _ _
      refine es_iret rfl rfl rfl (Or.inl rfl) ?_
      have e : p = S 0 0 5 := by omega
      rw [e] at hmm
      exact h _ hmm
    · refine es_sg 6 (p := ((0 : Int) = 0) ∧ ((((0 : Int) = 0) ∧ (0 ≤ r ∧ r < 10)) ∧ (0 ≤ r ∧ r < 10))) (pc' := 30) (ls' := [some (aR 0 (0 : Int)), some (aI r), some (aI kk), some (aL m), none, some (aI p)]) (st' := [aI p, aL (S 4 r 4)]) (S' := S) rfl ⟨rfl, ⟨rfl, (by omega)⟩, (by omega)⟩ ?_
      refine es_callS rfl rfl [aL (S 4 r 4), aI p] [] rfl rfl (Nat.le_of_ble_eq_true rfl) (Nat.le_of_ble_eq_true rfl) (Nat.le_of_ble_eq_true rfl) ?_
      refine m72 (m := (S 4 r 4)) (p := p) (rgL hg1 (t := 4) (i := r) (q := (4 : Int)) (by omega : 0 ≤ r ∧ r < 10) (by omega) rfl) (by omega) (fun hc30 => ?_) (fun hc30 => ?_)
      · show Es G 87 33 [some (aR 0 (0 : Int)), some (aI r), some (aI kk), some (aL m), none, some (aI p)] [aI (1 : Int)] S _ _
        refine es_if rfl 62 rfl ⟨by decide, by decide⟩ (fun (g33 : (1 : Int) = (0 : Int)) => absurd g33 (by decide)) (fun (g33 : ¬ ((1 : Int) = (0 : Int))) => ?_)
        refine es_sg 6 (p := ((0 : Int) = 0) ∧ ((((0 : Int) = 0) ∧ (0 ≤ r ∧ r < 10)) ∧ ((0 : Int) = 0))) (pc' := 46) (ls' := [some (aR 0 (0 : Int)), some (aI r), some (aI kk), some (aL m), none, some (aI p)]) (st' := [aR 15 (0 : Int), aR 4 r]) (S' := S) rfl ⟨rfl, ⟨rfl, (by omega)⟩, rfl⟩ ?_
        refine es_sg 2 (p := ((0 : Int) = 0) ∧ (0 ≤ p ∧ p < 60)) (pc' := 49) (ls' := [some (aR 0 (0 : Int)), some (aI r), some (aI kk), some (aL m), none, some (aI p)]) (st' := [aR 1 p, aR 4 r]) (S' := S) rfl ⟨rfl, (by omega)⟩ ?_
        refine es_callV rfl rfl 4 r [aR 1 p] [] rfl rfl rfl (show 0 ≤ r ∧ r < 10 from (by omega)) (Nat.le_of_ble_eq_true rfl) (Nat.le_of_ble_eq_true rfl) (Nat.le_of_ble_eq_true rfl) ?_
        refine m86 (r := r) (p := p) (by omega) (by omega) (hxy _ (by omega) (by omega)) (fun hc49 => ?_) (fun hc49 => ?_)
        · show Es G 87 52 [some (aR 0 (0 : Int)), some (aI r), some (aI kk), some (aL m), none, some (aI p)] [aI (1 : Int)] S _ _
          refine es_if rfl 62 rfl ⟨by decide, by decide⟩ (fun (g52 : ¬ (1 : Int) = (0 : Int)) => ?_) (fun (g52 : ¬ (¬ (1 : Int) = (0 : Int))) => absurd g52 (by decide))
          refine es_s0 2 (pc' := 10) (ls' := [some (aR 0 (0 : Int)), some (aI r), some (aI kk), some (aL m), none, some (aI (p + 1))]) (st' := []) (S' := S) rfl ?_
          exact ih (n - 1) (by omega) (p + 1) (m) (by omega) (by omega) (by assumption) (outF_skip hmm (fun q => by first | exact absurd (outF_iff.mp q).1 hc30 | exact (outF_iff.mp q).2 hc49)) h
        · show Es G 87 52 [some (aR 0 (0 : Int)), some (aI r), some (aI kk), some (aL m), none, some (aI p)] [aI (0 : Int)] S _ _
          refine es_if rfl 62 rfl ⟨by decide, by decide⟩ (fun (g52 : ¬ (0 : Int) = (0 : Int)) => absurd g52 (by decide)) (fun (g52 : ¬ (¬ (0 : Int) = (0 : Int))) => ?_)
          refine es_s0 6 (pc' := 62) (ls' := [some (aR 0 (0 : Int)), some (aI r), some (aI kk), some (aL (lOr m (lShl (1 : Int) p))), none, some (aI p)]) (st' := []) (S' := S) rfl ?_
          refine es_s0 2 (pc' := 10) (ls' := [some (aR 0 (0 : Int)), some (aI r), some (aI kk), some (aL (lOr m (lShl (1 : Int) p))), none, some (aI (p + 1))]) (st' := []) (S' := S) rfl ?_
          exact ih (n - 1) (by omega) (p + 1) (lOr m (lShl (1 : Int) p)) (by omega) (by omega) (r64_of _) (outF_step (by omega) hmm (outF_iff.mpr ⟨hc30, hc49⟩)) h
      · show Es G 87 33 [some (aR 0 (0 : Int)), some (aI r), some (aI kk), some (aL m), none, some (aI p)] [aI (0 : Int)] S _ _
        refine es_if rfl 62 rfl ⟨by decide, by decide⟩ (fun (g33 : (0 : Int) = (0 : Int)) => ?_) (fun (g33 : ¬ ((0 : Int) = (0 : Int))) => absurd g33 (by decide))
        refine es_s0 2 (pc' := 10) (ls' := [some (aR 0 (0 : Int)), some (aI r), some (aI kk), some (aL m), none, some (aI (p + 1))]) (st' := []) (S' := S) rfl ?_
        exact ih (n - 1) (by omega) (p + 1) (m) (by omega) (by omega) (by assumption) (outF_skip hmm (fun q => by first | exact absurd (outF_iff.mp q).1 hc30 | exact (outF_iff.mp q).2 hc49)) h
theorem m87 {G : Gw} {S : Sg} {k : Nat} {Q : AQ} (hnp : 0 ≤ S 0 0 5 ∧ S 0 0 5 ≤ 60) (hnr : 0 ≤ S 0 0 7 ∧ S 0 0 7 ≤ 10) {r kk : Int} (hr : r32 r) (hk : r32 kk) (hxy : ∀ i, 0 ≤ i → i < 60 → okXY S i) (t1 : ¬ (0 ≤ r ∧ r < S 0 0 7) → Q (.inr 1) S) (h : (0 ≤ r ∧ r < S 0 0 7) → Q (.inl (some (aI (nthF (outF S r) (S 0 0 5).toNat 0 kk)))) S) : Es G 87 0 (aEnt 6 [aR 0 (0 : Int), aI r, aI kk]) [] S (k + 2) Q := by
  refine es_rg (fun hg1 => ?_)
  refine es_s0 2 (pc' := 2) (ls' := [some (aR 0 (0 : Int)), some (aI r), some (aI kk), none, none, none]) (st' := [aI r, aR 0 (0 : Int)]) (S' := S) rfl ?_
  refine es_callV rfl rfl 0 (0 : Int) [aI r] [] rfl rfl rfl rfl (Nat.le_of_ble_eq_true rfl) (Nat.le_of_ble_eq_true rfl) (Nat.le_of_ble_eq_true rfl) ?_
  refine m81 (n := r) (by assumption) (fun hc2 => ?_) (fun hc2 => ⟨⟨_, rfl, rfl, rfl⟩, ?_⟩)
  · show Es G 87 5 [some (aR 0 (0 : Int)), some (aI r), some (aI kk), none, none, none] [] S _ _
    refine es_s0 4 (pc' := 10) (ls' := [some (aR 0 (0 : Int)), some (aI r), some (aI kk), some (aL (0 : Int)), none, some (aI (0 : Int))]) (st' := []) (S' := S) rfl ?_
    refine m87_l hnp hnr hc2 hk hxy (S 0 0 5).toNat 0 0 (by omega) (by omega) ⟨by decide, by decide⟩ outF_zero (fun m hm => ?_)
    rw [outF_end hnp hm]
    exact h hc2
  · exact t1 (by omega)
theorem m121 {G : Gw} {S : Sg} {k : Nat} {Q : AQ} (hnp : 0 ≤ S 0 0 5 ∧ S 0 0 5 ≤ 60) {p w : Int} (hp : r32 p) (hw : r32 w) (t1 : ¬ ((0 ≤ p ∧ p < S 0 0 5) ∧ 0 ≤ w ∧ w < 6) → Q (.inr 1) S) (h0 : (0 ≤ p ∧ p < S 0 0 5) ∧ w = 0 → Q (.inl (some (aL (S 1 p 2)))) S) (h1 : (0 ≤ p ∧ p < S 0 0 5) ∧ w = 1 → Q (.inl (some (aL (S 1 p 3)))) S) (h2 : (0 ≤ p ∧ p < S 0 0 5) ∧ w = 2 → Q (.inl (some (aL (S 1 p 4)))) S) (h3 : (0 ≤ p ∧ p < S 0 0 5) ∧ w = 3 → Q (.inl (some (aL (S 1 p 5)))) S) (h4 : (0 ≤ p ∧ p < S 0 0 5) ∧ w = 4 → Q (.inl (some (aL (S 1 p 6)))) S) (h5 : (0 ≤ p ∧ p < S 0 0 5) ∧ w = 5 → Q (.inl (some (aL (S 1 p 7)))) S) : Es G 121 0 (aEnt 4 [aR 0 (0 : Int), aI p, aI w]) [] S (k + 2) Q := by
  refine es_rg (fun hgz => ?_)
  have hz : 0 ≤ p ∧ p < 60 → S 1 p 7 = 0 ∨ S 1 p 7 = 1 := fun q => rgZ hgz (t := 1) (i := p) (q := 7) (by omega : 0 ≤ p ∧ p < 60) (by omega) rfl
  refine es_rg (fun hg1 => ?_)
  refine es_s0 2 (pc' := 2) (ls' := [some (aR 0 (0 : Int)), some (aI p), some (aI w), none]) (st' := [aI p, aR 0 (0 : Int)]) (S' := S) rfl ?_
  refine es_callV rfl rfl 0 (0 : Int) [aI p] [] rfl rfl rfl rfl (Nat.le_of_ble_eq_true rfl) (Nat.le_of_ble_eq_true rfl) (Nat.le_of_ble_eq_true rfl) ?_
  refine m17 (n := p) (by assumption) (fun hc2 => ?_) (fun hc2 => ⟨⟨_, rfl, rfl, rfl⟩, ?_⟩)
  · show Es G 121 5 [some (aR 0 (0 : Int)), some (aI p), some (aI w), none] [] S _ _
    refine es_sg 6 (p := ((0 : Int) = 0) ∧ (((0 : Int) = 0) ∧ (0 ≤ p ∧ p < 60))) (pc' := 13) (ls' := [some (aR 0 (0 : Int)), some (aI p), some (aI w), some (aR 1 p)]) (st' := [aI w]) (S' := S) rfl ⟨rfl, ⟨rfl, (by omega)⟩⟩ ?_
    refine es_ts rfl (by assumption) (fun (g13 : w < 0 ∨ 5 < w) => ⟨93, rfl, ?_⟩) (fun n hn hb => ?_)
    · refine es_throw rfl ?_
      exact t1 (by omega)
    · match n, hn with
      | 0, hn =>
        have g13 : w = 0 := by simpa using hn
        refine ⟨39, 52, rfl, rfl, ?_⟩
        refine es_sg 2 (p := 0 ≤ p ∧ p < 60) (pc' := 56) (ls' := [some (aR 0 (0 : Int)), some (aI p), some (aI w), some (aR 1 p)]) (st' := [aL (S 1 p 2)]) (S' := S) rfl (by omega) ?_
        refine es_lret rfl ?_
        first | exact h0 (by omega) | exact h1 (by omega) | exact h2 (by omega) | exact h3 (by omega) | exact h4 (by omega) | (have e := h5 (by omega); rw [show S 1 p 7 = 1 from by omega] at e; exact e) | (have e := h5 (by omega); rw [show S 1 p 7 = 0 from by omega] at e; exact e)
      | 1, hn =>
        have g13 : w = 1 := by simpa using hn
        refine ⟨44, 57, rfl, rfl, ?_⟩
        refine es_sg 2 (p := 0 ≤ p ∧ p < 60) (pc' := 61) (ls' := [some (aR 0 (0 : Int)), some (aI p), some (aI w), some (aR 1 p)]) (st' := [aL (S 1 p 3)]) (S' := S) rfl (by omega) ?_
        refine es_lret rfl ?_
        first | exact h0 (by omega) | exact h1 (by omega) | exact h2 (by omega) | exact h3 (by omega) | exact h4 (by omega) | (have e := h5 (by omega); rw [show S 1 p 7 = 1 from by omega] at e; exact e) | (have e := h5 (by omega); rw [show S 1 p 7 = 0 from by omega] at e; exact e)
      | 2, hn =>
        have g13 : w = 2 := by simpa using hn
        refine ⟨49, 62, rfl, rfl, ?_⟩
        refine es_sg 3 (p := (0 ≤ p ∧ p < 60) ∧ (r32 (S 1 p 4))) (pc' := 67) (ls' := [some (aR 0 (0 : Int)), some (aI p), some (aI w), some (aR 1 p)]) (st' := [aL (S 1 p 4)]) (S' := S) rfl ⟨(by omega), (rgI hg1 (t := 1) (i := p) (q := (4 : Int)) (by omega : 0 ≤ p ∧ p < 60) (by omega) rfl)⟩ ?_
        refine es_lret rfl ?_
        first | exact h0 (by omega) | exact h1 (by omega) | exact h2 (by omega) | exact h3 (by omega) | exact h4 (by omega) | (have e := h5 (by omega); rw [show S 1 p 7 = 1 from by omega] at e; exact e) | (have e := h5 (by omega); rw [show S 1 p 7 = 0 from by omega] at e; exact e)
      | 3, hn =>
        have g13 : w = 3 := by simpa using hn
        refine ⟨55, 68, rfl, rfl, ?_⟩
        refine es_sg 3 (p := (0 ≤ p ∧ p < 60) ∧ (r32 (S 1 p 5))) (pc' := 73) (ls' := [some (aR 0 (0 : Int)), some (aI p), some (aI w), some (aR 1 p)]) (st' := [aL (S 1 p 5)]) (S' := S) rfl ⟨(by omega), (rgI hg1 (t := 1) (i := p) (q := (5 : Int)) (by omega : 0 ≤ p ∧ p < 60) (by omega) rfl)⟩ ?_
        refine es_lret rfl ?_
        first | exact h0 (by omega) | exact h1 (by omega) | exact h2 (by omega) | exact h3 (by omega) | exact h4 (by omega) | (have e := h5 (by omega); rw [show S 1 p 7 = 1 from by omega] at e; exact e) | (have e := h5 (by omega); rw [show S 1 p 7 = 0 from by omega] at e; exact e)
      | 4, hn =>
        have g13 : w = 4 := by simpa using hn
        refine ⟨61, 74, rfl, rfl, ?_⟩
        refine es_sg 3 (p := (0 ≤ p ∧ p < 60) ∧ (r32 (S 1 p 6))) (pc' := 79) (ls' := [some (aR 0 (0 : Int)), some (aI p), some (aI w), some (aR 1 p)]) (st' := [aL (S 1 p 6)]) (S' := S) rfl ⟨(by omega), (rgI hg1 (t := 1) (i := p) (q := (6 : Int)) (by omega : 0 ≤ p ∧ p < 60) (by omega) rfl)⟩ ?_
        refine es_lret rfl ?_
        first | exact h0 (by omega) | exact h1 (by omega) | exact h2 (by omega) | exact h3 (by omega) | exact h4 (by omega) | (have e := h5 (by omega); rw [show S 1 p 7 = 1 from by omega] at e; exact e) | (have e := h5 (by omega); rw [show S 1 p 7 = 0 from by omega] at e; exact e)
      | 5, hn =>
        have g13 : w = 5 := by simpa using hn
        refine ⟨67, 80, rfl, rfl, ?_⟩
        refine es_sg 2 (p := 0 ≤ p ∧ p < 60) (pc' := 84) (ls' := [some (aR 0 (0 : Int)), some (aI p), some (aI w), some (aR 1 p)]) (st' := [aI (S 1 p 7)]) (S' := S) rfl (by omega) ?_
        refine es_if rfl 91 rfl (r32_z (rgZ hg1 (t := 1) (i := p) (q := (7 : Int)) (by omega : 0 ≤ p ∧ p < 60) (by omega) rfl)) (fun (g84 : (S 1 p 7) = (0 : Int)) => ?_) (fun (g84 : ¬ ((S 1 p 7) = (0 : Int))) => ?_)
        · refine es_s0 1 (pc' := 92) (ls' := [some (aR 0 (0 : Int)), some (aI p), some (aI w), some (aR 1 p)]) (st' := [aL (0 : Int)]) (S' := S) rfl ?_
          refine es_lret rfl ?_
          first | exact h0 (by omega) | exact h1 (by omega) | exact h2 (by omega) | exact h3 (by omega) | exact h4 (by omega) | (have e := h5 (by omega); rw [show S 1 p 7 = 1 from by omega] at e; exact e) | (have e := h5 (by omega); rw [show S 1 p 7 = 0 from by omega] at e; exact e)
        · refine es_s0 2 (pc' := 92) (ls' := [some (aR 0 (0 : Int)), some (aI p), some (aI w), some (aR 1 p)]) (st' := [aL (1 : Int)]) (S' := S) rfl ?_
          refine es_lret rfl ?_
          first | exact h0 (by omega) | exact h1 (by omega) | exact h2 (by omega) | exact h3 (by omega) | exact h4 (by omega) | (have e := h5 (by omega); rw [show S 1 p 7 = 1 from by omega] at e; exact e) | (have e := h5 (by omega); rw [show S 1 p 7 = 0 from by omega] at e; exact e)
      | n + 6, hn => exact absurd hb (by omega)
  · exact t1 (by omega)
