/-! LABELS: where one lies at a spot -/
def lbX (A : Sg) (p s : Int) : Int := if s = 0 ∨ s = 4 ∨ s = 7 then A 1 p 2 + pW A p else if s = 1 ∨ s = 3 then A 1 p 2 else A 1 p 2 - A 1 p 9
def lbY (A : Sg) (p s : Int) : Int := if s = 1 ∨ s = 4 ∨ s = 5 then A 1 p 3 + pH A p else if s = 0 ∨ s = 2 then A 1 p 3 else A 1 p 3 - A 1 p 10
theorem spX_is {s : Int} (h : 0 ≤ s ∧ s < 8) : (s = 0 ∨ s = 4 ∨ s = 7 → spV 0 s = 1) ∧ (s = 1 ∨ s = 3 → spV 0 s = 0) ∧ (s = 2 ∨ s = 5 ∨ s = 6 → spV 0 s = -1) := by
  obtain ⟨n, rfl⟩ : ∃ n : Nat, s = n := ⟨s.toNat, by omega⟩
  match n, h with
  | 0, _ => exact ⟨by decide, by decide, by decide⟩
  | 1, _ => exact ⟨by decide, by decide, by decide⟩
  | 2, _ => exact ⟨by decide, by decide, by decide⟩
  | 3, _ => exact ⟨by decide, by decide, by decide⟩
  | 4, _ => exact ⟨by decide, by decide, by decide⟩
  | 5, _ => exact ⟨by decide, by decide, by decide⟩
  | 6, _ => exact ⟨by decide, by decide, by decide⟩
  | 7, _ => exact ⟨by decide, by decide, by decide⟩
  | n + 8, h => omega
theorem spY_is {s : Int} (h : 0 ≤ s ∧ s < 8) : (s = 1 ∨ s = 4 ∨ s = 5 → spV 1 s = 1) ∧ (s = 0 ∨ s = 2 → spV 1 s = 0) ∧ (s = 3 ∨ s = 6 ∨ s = 7 → spV 1 s = -1) := by
  obtain ⟨n, rfl⟩ : ∃ n : Nat, s = n := ⟨s.toNat, by omega⟩
  match n, h with
  | 0, _ => exact ⟨by decide, by decide, by decide⟩
  | 1, _ => exact ⟨by decide, by decide, by decide⟩
  | 2, _ => exact ⟨by decide, by decide, by decide⟩
  | 3, _ => exact ⟨by decide, by decide, by decide⟩
  | 4, _ => exact ⟨by decide, by decide, by decide⟩
  | 5, _ => exact ⟨by decide, by decide, by decide⟩
  | 6, _ => exact ⟨by decide, by decide, by decide⟩
  | 7, _ => exact ⟨by decide, by decide, by decide⟩
  | n + 8, h => omega
/-- a label's size is small -/
def okLb (A : Sg) (p : Int) : Prop := (0 ≤ A 1 p 9 ∧ A 1 p 9 ≤ 1000) ∧ (0 ≤ A 1 p 10 ∧ A 1 p 10 ≤ 1000)
theorem lb_b {A : Sg} {p s : Int} (h : okXY A p) (hl : okLb A p) : (-5000000 ≤ lbX A p s ∧ lbX A p s ≤ 5000000) ∧ (-5000000 ≤ lbY A p s ∧ lbY A p s ≤ 5000000) := by
  have hw := pW_b h
  have hh := pH_b h
  unfold okXY at h
  unfold okLb at hl
  unfold lbX lbY
  refine ⟨?_, ?_⟩ <;> split <;> first | omega | (split <;> omega)
theorem m93 {G : Gw} {S : Sg} {k : Nat} {Q : AQ} {p s : Int} (hp : 0 ≤ p ∧ p < 60) (hs : 0 ≤ s ∧ s < 8) (hx : okXY S p) (hl : okLb S p) (h : Q (.inl (some (aL (lbX S p s)))) S) : Es G 93 0 (aEnt 2 [aR 1 p, aI s]) [] S (k + 1) Q := by
  have hsp := spX_is hs
  unfold okXY at hx
  unfold okLb at hl
  refine es_rg (fun hg1 => ?_)
  refine es_s0 1 (pc' := 1) (ls' := [some (aR 1 p), some (aI s)]) (st' := [aI s]) (S' := S) rfl ?_
  refine es_if rfl 18 rfl ⟨by omega, by omega⟩ (fun (g1 : s < (0 : Int)) => ?_) (fun (g1 : ¬ (s < (0 : Int))) => ?_)
  · refine es_sg 2 (p := 0 ≤ p ∧ p < 60) (pc' := 22) (ls' := [some (aR 1 p), some (aI s)]) (st' := [aL (S 1 p 2)]) (S' := S) rfl (by omega) ?_
    refine es_lret rfl ?_
    have e := h
    unfold lbX at e
    first
      | (rw [if_pos (by omega)] at e; exact e)
      | (rw [if_neg (by omega), if_pos (by omega)] at e; exact e)
      | (rw [if_neg (by omega), if_neg (by omega)] at e; exact e)
      | (exfalso; omega)
  · refine es_s0 2 (pc' := 7) (ls' := [some (aR 1 p), some (aI s)]) (st' := [aI (8 : Int), aI s]) (S' := S) rfl ?_
    refine es_icmp rfl 18 rfl ⟨by omega, by omega⟩ ⟨by decide, by decide⟩ (fun (g7 : (8 : Int) ≤ s) => ?_) (fun (g7 : ¬ ((8 : Int) ≤ s)) => ?_)
    · refine es_sg 2 (p := 0 ≤ p ∧ p < 60) (pc' := 22) (ls' := [some (aR 1 p), some (aI s)]) (st' := [aL (S 1 p 2)]) (S' := S) rfl (by omega) ?_
      refine es_lret rfl ?_
      have e := h
      unfold lbX at e
      first
        | (rw [if_pos (by omega)] at e; exact e)
        | (rw [if_neg (by omega), if_pos (by omega)] at e; exact e)
        | (rw [if_neg (by omega), if_neg (by omega)] at e; exact e)
        | (exfalso; omega)
    · refine es_sg 3 (p := 0 ≤ s ∧ s < 8) (pc' := 15) (ls' := [some (aR 1 p), some (aI s)]) (st' := [aI (spV 0 s)]) (S' := S) rfl (by omega) ?_
      refine es_if rfl 23 rfl (r32_of _) (fun (g15 : ¬ (spV 0 s) = (0 : Int)) => ?_) (fun (g15 : ¬ (¬ (spV 0 s) = (0 : Int))) => ?_)
      · refine es_sg 3 (p := 0 ≤ s ∧ s < 8) (pc' := 28) (ls' := [some (aR 1 p), some (aI s)]) (st' := [aI (spV 0 s)]) (S' := S) rfl (by omega) ?_
        refine es_if rfl 38 rfl (r32_of _) (fun (g28 : (spV 0 s) ≤ (0 : Int)) => ?_) (fun (g28 : ¬ ((spV 0 s) ≤ (0 : Int))) => ?_)
        · refine es_sg 5 (p := (0 ≤ p ∧ p < 60) ∧ (0 ≤ p ∧ p < 60)) (pc' := 47) (ls' := [some (aR 1 p), some (aI s)]) (st' := [aL ((S 1 p 2) - (S 1 p 9))]) (S' := S) rfl ⟨(by omega), (by omega)⟩ ?_
          refine es_lret rfl ?_
          have e := h
          unfold lbX at e
          first
            | (rw [if_pos (by omega)] at e; exact e)
            | (rw [if_neg (by omega), if_pos (by omega)] at e; exact e)
            | (rw [if_neg (by omega), if_neg (by omega)] at e; exact e)
            | (exfalso; omega)
        · refine es_s0 1 (pc' := 32) (ls' := [some (aR 1 p), some (aI s)]) (st' := [aR 1 p]) (S' := S) rfl ?_
          refine es_callV rfl rfl 1 p [] [] rfl rfl rfl (show 0 ≤ p ∧ p < 60 from (by omega)) (Nat.le_of_ble_eq_true rfl) (Nat.le_of_ble_eq_true rfl) (Nat.le_of_ble_eq_true rfl) ?_
          refine m43 (i := p) (by omega) (show 0 ≤ S 1 p 4 ∧ S 1 p 4 < 4 from by omega) ?_
          show Es G 93 35 [some (aR 1 p), some (aI s)] [aL ((S 1 p 2) + pW S p)] S _ _
          refine es_s0 1 (pc' := 47) (ls' := [some (aR 1 p), some (aI s)]) (st' := [aL ((S 1 p 2) + pW S p)]) (S' := S) rfl ?_
          refine es_lret rfl ?_
          have e := h
          unfold lbX at e
          first
            | (rw [if_pos (by omega)] at e; exact e)
            | (rw [if_neg (by omega), if_pos (by omega)] at e; exact e)
            | (rw [if_neg (by omega), if_neg (by omega)] at e; exact e)
            | (exfalso; omega)
      · refine es_sg 2 (p := 0 ≤ p ∧ p < 60) (pc' := 22) (ls' := [some (aR 1 p), some (aI s)]) (st' := [aL (S 1 p 2)]) (S' := S) rfl (by omega) ?_
        refine es_lret rfl ?_
        have e := h
        unfold lbX at e
        first
          | (rw [if_pos (by omega)] at e; exact e)
          | (rw [if_neg (by omega), if_pos (by omega)] at e; exact e)
          | (rw [if_neg (by omega), if_neg (by omega)] at e; exact e)
          | (exfalso; omega)
theorem m94 {G : Gw} {S : Sg} {k : Nat} {Q : AQ} {p s : Int} (hp : 0 ≤ p ∧ p < 60) (hs : 0 ≤ s ∧ s < 8) (hx : okXY S p) (hl : okLb S p) (h : Q (.inl (some (aL (lbY S p s)))) S) : Es G 94 0 (aEnt 2 [aR 1 p, aI s]) [] S (k + 1) Q := by
  have hsp := spY_is hs
  unfold okXY at hx
  unfold okLb at hl
  refine es_rg (fun hg1 => ?_)
  refine es_s0 1 (pc' := 1) (ls' := [some (aR 1 p), some (aI s)]) (st' := [aI s]) (S' := S) rfl ?_
  refine es_if rfl 18 rfl ⟨by omega, by omega⟩ (fun (g1 : s < (0 : Int)) => ?_) (fun (g1 : ¬ (s < (0 : Int))) => ?_)
  · refine es_sg 2 (p := 0 ≤ p ∧ p < 60) (pc' := 22) (ls' := [some (aR 1 p), some (aI s)]) (st' := [aL (S 1 p 3)]) (S' := S) rfl (by omega) ?_
    refine es_lret rfl ?_
    have e := h
    unfold lbY at e
    first
      | (rw [if_pos (by omega)] at e; exact e)
      | (rw [if_neg (by omega), if_pos (by omega)] at e; exact e)
      | (rw [if_neg (by omega), if_neg (by omega)] at e; exact e)
      | (exfalso; omega)
  · refine es_s0 2 (pc' := 7) (ls' := [some (aR 1 p), some (aI s)]) (st' := [aI (8 : Int), aI s]) (S' := S) rfl ?_
    refine es_icmp rfl 18 rfl ⟨by omega, by omega⟩ ⟨by decide, by decide⟩ (fun (g7 : (8 : Int) ≤ s) => ?_) (fun (g7 : ¬ ((8 : Int) ≤ s)) => ?_)
    · refine es_sg 2 (p := 0 ≤ p ∧ p < 60) (pc' := 22) (ls' := [some (aR 1 p), some (aI s)]) (st' := [aL (S 1 p 3)]) (S' := S) rfl (by omega) ?_
      refine es_lret rfl ?_
      have e := h
      unfold lbY at e
      first
        | (rw [if_pos (by omega)] at e; exact e)
        | (rw [if_neg (by omega), if_pos (by omega)] at e; exact e)
        | (rw [if_neg (by omega), if_neg (by omega)] at e; exact e)
        | (exfalso; omega)
    · refine es_sg 3 (p := 0 ≤ s ∧ s < 8) (pc' := 15) (ls' := [some (aR 1 p), some (aI s)]) (st' := [aI (spV 1 s)]) (S' := S) rfl (by omega) ?_
      refine es_if rfl 23 rfl (r32_of _) (fun (g15 : ¬ (spV 1 s) = (0 : Int)) => ?_) (fun (g15 : ¬ (¬ (spV 1 s) = (0 : Int))) => ?_)
      · refine es_sg 3 (p := 0 ≤ s ∧ s < 8) (pc' := 28) (ls' := [some (aR 1 p), some (aI s)]) (st' := [aI (spV 1 s)]) (S' := S) rfl (by omega) ?_
        refine es_if rfl 38 rfl (r32_of _) (fun (g28 : (spV 1 s) ≤ (0 : Int)) => ?_) (fun (g28 : ¬ ((spV 1 s) ≤ (0 : Int))) => ?_)
        · refine es_sg 5 (p := (0 ≤ p ∧ p < 60) ∧ (0 ≤ p ∧ p < 60)) (pc' := 47) (ls' := [some (aR 1 p), some (aI s)]) (st' := [aL ((S 1 p 3) - (S 1 p 10))]) (S' := S) rfl ⟨(by omega), (by omega)⟩ ?_
          refine es_lret rfl ?_
          have e := h
          unfold lbY at e
          first
            | (rw [if_pos (by omega)] at e; exact e)
            | (rw [if_neg (by omega), if_pos (by omega)] at e; exact e)
            | (rw [if_neg (by omega), if_neg (by omega)] at e; exact e)
            | (exfalso; omega)
        · refine es_s0 1 (pc' := 32) (ls' := [some (aR 1 p), some (aI s)]) (st' := [aR 1 p]) (S' := S) rfl ?_
          refine es_callV rfl rfl 1 p [] [] rfl rfl rfl (show 0 ≤ p ∧ p < 60 from (by omega)) (Nat.le_of_ble_eq_true rfl) (Nat.le_of_ble_eq_true rfl) (Nat.le_of_ble_eq_true rfl) ?_
          refine m44 (i := p) (by omega) (show 0 ≤ S 1 p 4 ∧ S 1 p 4 < 4 from by omega) ?_
          show Es G 94 35 [some (aR 1 p), some (aI s)] [aL ((S 1 p 3) + pH S p)] S _ _
          refine es_s0 1 (pc' := 47) (ls' := [some (aR 1 p), some (aI s)]) (st' := [aL ((S 1 p 3) + pH S p)]) (S' := S) rfl ?_
          refine es_lret rfl ?_
          have e := h
          unfold lbY at e
          first
            | (rw [if_pos (by omega)] at e; exact e)
            | (rw [if_neg (by omega), if_pos (by omega)] at e; exact e)
            | (rw [if_neg (by omega), if_neg (by omega)] at e; exact e)
            | (exfalso; omega)
      · refine es_sg 2 (p := 0 ≤ p ∧ p < 60) (pc' := 22) (ls' := [some (aR 1 p), some (aI s)]) (st' := [aL (S 1 p 3)]) (S' := S) rfl (by omega) ?_
        refine es_lret rfl ?_
        have e := h
        unfold lbY at e
        first
          | (rw [if_pos (by omega)] at e; exact e)
          | (rw [if_neg (by omega), if_pos (by omega)] at e; exact e)
          | (rw [if_neg (by omega), if_neg (by omega)] at e; exact e)
          | (exfalso; omega)
/-- a label is dropped, a label is given -/
def dropL (S : Sg) (p : Int) : Sg := su (su S 1 p 8 0) 1 p 11 (-1)
def giveL (S : Sg) (p w h : Int) : Sg := su (su (su (su S 1 p 8 1) 1 p 9 w) 1 p 10 h) 1 p 11 (-1)
theorem m90 {G : Gw} {S : Sg} {k : Nat} {Q : AQ} {p : Int} (hp : 0 ≤ p ∧ p < 60) (h : Q (.inl none) (dropL S p)) : Es G 90 0 (aEnt 1 [aR 1 p]) [] S (k + 0) Q := by
  refine es_rg (fun hg1 => ?_)
  refine es_sg 3 (p := (0 ≤ p ∧ p < 60) ∧ ((0 : Int) = 0 ∨ (0 : Int) = 1)) (pc' := 5) (ls' := [some (aR 1 p)]) (st' := []) (S' := su S 1 p 8 0) rfl ⟨(by omega), (by decide)⟩ ?_
  refine es_rg (fun hg2 => ?_)
  refine es_sg 3 (p := (0 ≤ p ∧ p < 60) ∧ (r32 (-1 : Int))) (pc' := 10) (ls' := [some (aR 1 p)]) (st' := []) (S' := su (su S 1 p 8 0) 1 p 11 (-1)) rfl ⟨(by omega), ⟨by decide, by decide⟩⟩ ?_
  refine es_rg (fun hg3 => ?_)
  refine es_vret rfl ?_
  exact h
theorem m92 {G : Gw} {S : Sg} {k : Nat} {Q : AQ} {p w h : Int} (hp : 0 ≤ p ∧ p < 60) (hw : r64 w) (hh : r64 h) (h0 : Q (.inl none) (giveL S p w h)) : Es G 92 0 (aEnt 5 [aR 1 p, aL w, aL h]) [] S (k + 0) Q := by
  refine es_rg (fun hg1 => ?_)
  refine es_sg 3 (p := (0 ≤ p ∧ p < 60) ∧ ((1 : Int) = 0 ∨ (1 : Int) = 1)) (pc' := 5) (ls' := [some (aR 1 p), some (aL w), none, some (aL h), none]) (st' := []) (S' := su S 1 p 8 1) rfl ⟨(by omega), (by decide)⟩ ?_
  refine es_rg (fun hg2 => ?_)
  refine es_sg 3 (p := (0 ≤ p ∧ p < 60) ∧ (r64 w)) (pc' := 10) (ls' := [some (aR 1 p), some (aL w), none, some (aL h), none]) (st' := []) (S' := su (su S 1 p 8 1) 1 p 9 w) rfl ⟨(by omega), (by assumption)⟩ ?_
  refine es_rg (fun hg3 => ?_)
  refine es_sg 3 (p := (0 ≤ p ∧ p < 60) ∧ (r64 h)) (pc' := 15) (ls' := [some (aR 1 p), some (aL w), none, some (aL h), none]) (st' := []) (S' := su (su (su S 1 p 8 1) 1 p 9 w) 1 p 10 h) rfl ⟨(by omega), (by assumption)⟩ ?_
  refine es_rg (fun hg4 => ?_)
  refine es_sg 3 (p := (0 ≤ p ∧ p < 60) ∧ (r32 (-1 : Int))) (pc' := 20) (ls' := [some (aR 1 p), some (aL w), none, some (aL h), none]) (st' := []) (S' := su (su (su (su S 1 p 8 1) 1 p 9 w) 1 p 10 h) 1 p 11 (-1)) rfl ⟨(by omega), ⟨by decide, by decide⟩⟩ ?_
  refine es_rg (fun hg5 => ?_)
  refine es_vret rfl ?_
  exact h0
theorem m112 {G : Gw} {S : Sg} {k : Nat} {Q : AQ} (hnp : 0 ≤ S 0 0 5 ∧ S 0 0 5 ≤ 60) {p a : Int} (hp : r32 p) (ha : r32 a) (hx : ∀ i, 0 ≤ i → i < 60 → okXY S i) (hl : ∀ i, 0 ≤ i → i < 60 → S 1 i 8 = 1 → okLb S i ∧ (0 ≤ S 1 i 11 ∧ S 1 i 11 < 8)) (t1 : ¬ ((0 ≤ p ∧ p < S 0 0 5) ∧ 0 ≤ a ∧ a < 3) → Q (.inr 1) S) (t2 : ((0 ≤ p ∧ p < S 0 0 5) ∧ 0 ≤ a ∧ a < 3) ∧ ¬ S 1 p 8 = 1 → Q (.inr 2) S) (h0 : ((0 ≤ p ∧ p < S 0 0 5) ∧ a = 0) ∧ S 1 p 8 = 1 → Q (.inl (some (aL (lbX S p (S 1 p 11))))) S) (h1 : ((0 ≤ p ∧ p < S 0 0 5) ∧ a = 1) ∧ S 1 p 8 = 1 → Q (.inl (some (aL (lbY S p (S 1 p 11))))) S) (h2 : ((0 ≤ p ∧ p < S 0 0 5) ∧ a = 2) ∧ S 1 p 8 = 1 → Q (.inl (some (aL (S 1 p 11)))) S) : Es G 112 0 (aEnt 4 [aR 0 (0 : Int), aI p, aI a]) [] S (k + 2) Q := by
  refine es_rg (fun hgz => ?_)
  have hz : 0 ≤ p ∧ p < 60 → S 1 p 8 = 0 ∨ S 1 p 8 = 1 := fun q => rgZ hgz (t := 1) (i := p) (q := 8) (by omega : 0 ≤ p ∧ p < 60) (by omega) rfl
  have hl2 : (0 ≤ p ∧ p < 60) ∧ S 1 p 8 = 1 → 0 ≤ S 1 p 11 ∧ S 1 p 11 < 8 := fun q => (hl p q.1.1 q.1.2 q.2).2
  refine es_rg (fun hg1 => ?_)
  refine es_s0 2 (pc' := 2) (ls' := [some (aR 0 (0 : Int)), some (aI p), some (aI a), none]) (st' := [aI p, aR 0 (0 : Int)]) (S' := S) rfl ?_
  refine es_callV rfl rfl 0 (0 : Int) [aI p] [] rfl rfl rfl rfl (Nat.le_of_ble_eq_true rfl) (Nat.le_of_ble_eq_true rfl) (Nat.le_of_ble_eq_true rfl) ?_
  refine m17 (n := p) (by assumption) (fun hc2 => ?_) (fun hc2 => ⟨⟨_, rfl, rfl, rfl⟩, ?_⟩)
  · show Es G 112 5 [some (aR 0 (0 : Int)), some (aI p), some (aI a), none] [] S _ _
    refine es_s0 1 (pc' := 6) (ls' := [some (aR 0 (0 : Int)), some (aI p), some (aI a), none]) (st' := [aI a]) (S' := S) rfl ?_
    refine es_if rfl 14 rfl (by assumption) (fun (g6 : a < (0 : Int)) => ?_) (fun (g6 : ¬ (a < (0 : Int))) => ?_)
    · refine es_throw rfl ?_
      exact t1 (by omega)
    · refine es_s0 2 (pc' := 11) (ls' := [some (aR 0 (0 : Int)), some (aI p), some (aI a), none]) (st' := [aI (2 : Int), aI a]) (S' := S) rfl ?_
      refine es_icmp rfl 24 rfl (by assumption) ⟨by decide, by decide⟩ (fun (g11 : a ≤ (2 : Int)) => ?_) (fun (g11 : ¬ (a ≤ (2 : Int))) => ?_)
      · refine es_sg 6 (p := ((0 : Int) = 0) ∧ (((0 : Int) = 0) ∧ (0 ≤ p ∧ p < 60))) (pc' := 32) (ls' := [some (aR 0 (0 : Int)), some (aI p), some (aI a), some (aR 1 p)]) (st' := [aR 1 p]) (S' := S) rfl ⟨rfl, ⟨rfl, (by omega)⟩⟩ ?_
        refine es_sg 1 (p := 0 ≤ p ∧ p < 60) (pc' := 35) (ls' := [some (aR 0 (0 : Int)), some (aI p), some (aI a), some (aR 1 p)]) (st' := [aI (S 1 p 8)]) (S' := S) rfl (by omega) ?_
        refine es_if rfl 48 rfl (r32_z (rgZ hg1 (t := 1) (i := p) (q := (8 : Int)) (by omega : 0 ≤ p ∧ p < 60) (by omega) rfl)) (fun (g35 : ¬ (S 1 p 8) = (0 : Int)) => ?_) (fun (g35 : ¬ (¬ (S 1 p 8) = (0 : Int))) => ?_)
        · refine es_s0 1 (pc' := 49) (ls' := [some (aR 0 (0 : Int)), some (aI p), some (aI a), some (aR 1 p)]) (st' := [aI a]) (S' := S) rfl ?_
          refine es_if rfl 61 rfl (by assumption) (fun (g49 : ¬ a = (0 : Int)) => ?_) (fun (g49 : ¬ (¬ a = (0 : Int))) => ?_)
          · refine es_s0 2 (pc' := 63) (ls' := [some (aR 0 (0 : Int)), some (aI p), some (aI a), some (aR 1 p)]) (st' := [aI (1 : Int), aI a]) (S' := S) rfl ?_
            refine es_icmp rfl 77 rfl (by assumption) ⟨by decide, by decide⟩ (fun (g63 : ¬ a = (1 : Int)) => ?_) (fun (g63 : ¬ (¬ a = (1 : Int))) => ?_)
            · refine es_sg 3 (p := (0 ≤ p ∧ p < 60) ∧ (r32 (S 1 p 11))) (pc' := 82) (ls' := [some (aR 0 (0 : Int)), some (aI p), some (aI a), some (aR 1 p)]) (st' := [aL (S 1 p 11)]) (S' := S) rfl ⟨(by omega), (rgI hg1 (t := 1) (i := p) (q := (11 : Int)) (by omega : 0 ≤ p ∧ p < 60) (by omega) rfl)⟩ ?_
              refine es_lret rfl ?_
              first | exact h0 (by omega) | exact h1 (by omega) | exact h2 (by omega) | (exfalso; omega)
            · refine es_sg 3 (p := 0 ≤ p ∧ p < 60) (pc' := 71) (ls' := [some (aR 0 (0 : Int)), some (aI p), some (aI a), some (aR 1 p)]) (st' := [aI (S 1 p 11), aR 1 p]) (S' := S) rfl (by omega) ?_
              refine es_callV rfl rfl 1 p [aI (S 1 p 11)] [] rfl rfl rfl (show 0 ≤ p ∧ p < 60 from (by omega)) (Nat.le_of_ble_eq_true rfl) (Nat.le_of_ble_eq_true rfl) (Nat.le_of_ble_eq_true rfl) ?_
              refine m94 (S := S) (p := p) (s := (S 1 p 11)) (by omega) (by omega) (hx _ (by omega) (by omega)) (hl p (by omega) (by omega) (by omega)).1 ?_
              show Es G 112 74 [some (aR 0 (0 : Int)), some (aI p), some (aI a), some (aR 1 p)] [aL (lbY S p (S 1 p 11))] S _ _
              refine es_s0 1 (pc' := 82) (ls' := [some (aR 0 (0 : Int)), some (aI p), some (aI a), some (aR 1 p)]) (st' := [aL (lbY S p (S 1 p 11))]) (S' := S) rfl ?_
              refine es_lret rfl ?_
              first | exact h0 (by omega) | exact h1 (by omega) | exact h2 (by omega) | (exfalso; omega)
          · refine es_sg 3 (p := 0 ≤ p ∧ p < 60) (pc' := 57) (ls' := [some (aR 0 (0 : Int)), some (aI p), some (aI a), some (aR 1 p)]) (st' := [aI (S 1 p 11), aR 1 p]) (S' := S) rfl (by omega) ?_
            refine es_callV rfl rfl 1 p [aI (S 1 p 11)] [] rfl rfl rfl (show 0 ≤ p ∧ p < 60 from (by omega)) (Nat.le_of_ble_eq_true rfl) (Nat.le_of_ble_eq_true rfl) (Nat.le_of_ble_eq_true rfl) ?_
            refine m93 (S := S) (p := p) (s := (S 1 p 11)) (by omega) (by omega) (hx _ (by omega) (by omega)) (hl p (by omega) (by omega) (by omega)).1 ?_
            show Es G 112 60 [some (aR 0 (0 : Int)), some (aI p), some (aI a), some (aR 1 p)] [aL (lbX S p (S 1 p 11))] S _ _
            refine es_lret rfl ?_
            first | exact h0 (by omega) | exact h1 (by omega) | exact h2 (by omega) | (exfalso; omega)
        · refine es_throw rfl ?_
          exact t2 (by omega)
      · refine es_throw rfl ?_
        exact t1 (by omega)
  · exact t1 (by omega)
theorem n107 {G : Gw} {S : Sg} {k : Nat} {Q : AQ} {A : Sg} {p s : Int} (hp : 0 ≤ p ∧ p < 60) (hs : 0 ≤ s ∧ s < 8) (hx : okXY A p) (hR : RR A S) (hl : A 1 p 8 = 1) (h : Q (.inl (some (aL (lbX A p s)))) S) : Es G 107 0 (aEnt 3 [aR 20 (0 : Int), aI p, aI s]) [] S (k + 1) Q := by
  have ex : S 24 0 p = A 1 p 2 := (hR.2.1 p hp.1 hp.2).2.2.1
  have et : S 26 0 p = A 1 p 4 := (hR.2.1 p hp.1 hp.2).2.2.2.2.1
  have ew : rW S p = pW A p := (rWH hR hp).1
  have hlb := hR.2.2.2.2.2.2 p hp.1 hp.2
  have el : S 40 0 p = A 1 p 9 := by have q := hlb.1; rw [if_pos hl] at q; exact q
  unfold okXY at hx
  refine es_rg (fun hg1 => ?_)
  refine es_s0 1 (pc' := 1) (ls' := [some (aR 20 (0 : Int)), some (aI p), some (aI s)]) (st' := [aI s]) (S' := S) rfl ?_
  refine es_ts rfl ⟨by omega, by omega⟩ (fun (g1 : s < 0 ∨ 7 < s) => ⟨68, rfl, ?_⟩) (fun n hn hb => ?_)
  · refine es_sg 6 (p := ((0 : Int) = 0) ∧ ((((0 : Int) = 0) ∧ (0 ≤ p ∧ p < 60)) ∧ ((0 : Int) = 0))) (pc' := 78) (ls' := [some (aR 20 (0 : Int)), some (aI p), some (aI s)]) (st' := [aR 40 (0 : Int), aL (S 24 0 p)]) (S' := S) rfl ⟨rfl, ⟨rfl, (by omega)⟩, rfl⟩ ?_
    refine es_sg 3 (p := ((0 : Int) = 0) ∧ (0 ≤ p ∧ p < 60)) (pc' := 81) (ls' := [some (aR 20 (0 : Int)), some (aI p), some (aI s)]) (st' := [aL ((S 24 0 p) - (S 40 0 p))]) (S' := S) rfl ⟨rfl, (by omega)⟩ ?_
    refine es_lret rfl ?_
    have e := h
    unfold lbX at e
    first
      | (rw [if_pos (by omega)] at e; rw [ex, ew]; exact e)
      | (rw [if_neg (by omega), if_pos (by omega)] at e; rw [ex]; exact e)
      | (rw [if_neg (by omega), if_neg (by omega)] at e; rw [ex, el]; exact e)
      | (exfalso; omega)
  · match n, hn with
    | 0, hn =>
      have g1 : s = 0 := by simpa using hn
      refine ⟨47, 48, rfl, rfl, ?_⟩
      refine es_sg 6 (p := ((0 : Int) = 0) ∧ (((0 : Int) = 0) ∧ (0 ≤ p ∧ p < 60))) (pc' := 56) (ls' := [some (aR 20 (0 : Int)), some (aI p), some (aI s)]) (st' := [aI p, aR 20 (0 : Int), aL (S 24 0 p)]) (S' := S) rfl ⟨rfl, ⟨rfl, (by omega)⟩⟩ ?_
      refine es_callV rfl rfl 20 (0 : Int) [aI p] [aL (S 24 0 p)] rfl rfl rfl rfl (Nat.le_of_ble_eq_true rfl) (Nat.le_of_ble_eq_true rfl) (Nat.le_of_ble_eq_true rfl) ?_
      refine n57 (S := S) (i := p) (by omega) (show 0 ≤ S 26 0 p ∧ S 26 0 p < 4 from by omega) ?_
      show Es G 107 59 [some (aR 20 (0 : Int)), some (aI p), some (aI s)] [aL (rW S p), aL (S 24 0 p)] S _ _
      refine es_s0 1 (pc' := 60) (ls' := [some (aR 20 (0 : Int)), some (aI p), some (aI s)]) (st' := [aL ((S 24 0 p) + (rW S p))]) (S' := S) rfl ?_
      refine es_lret rfl ?_
      have e := h
      unfold lbX at e
      first
        | (rw [if_pos (by omega)] at e; rw [ex, ew]; exact e)
        | (rw [if_neg (by omega), if_pos (by omega)] at e; rw [ex]; exact e)
        | (rw [if_neg (by omega), if_neg (by omega)] at e; rw [ex, el]; exact e)
        | (exfalso; omega)
    | 1, hn =>
      have g1 : s = 1 := by simpa using hn
      refine ⟨60, 61, rfl, rfl, ?_⟩
      refine es_sg 4 (p := ((0 : Int) = 0) ∧ (((0 : Int) = 0) ∧ (0 ≤ p ∧ p < 60))) (pc' := 67) (ls' := [some (aR 20 (0 : Int)), some (aI p), some (aI s)]) (st' := [aL (S 24 0 p)]) (S' := S) rfl ⟨rfl, ⟨rfl, (by omega)⟩⟩ ?_
      refine es_lret rfl ?_
      have e := h
      unfold lbX at e
      first
        | (rw [if_pos (by omega)] at e; rw [ex, ew]; exact e)
        | (rw [if_neg (by omega), if_pos (by omega)] at e; rw [ex]; exact e)
        | (rw [if_neg (by omega), if_neg (by omega)] at e; rw [ex, el]; exact e)
        | (exfalso; omega)
    | 2, hn =>
      have g1 : s = 2 := by simpa using hn
      refine ⟨67, 68, rfl, rfl, ?_⟩
      refine es_sg 6 (p := ((0 : Int) = 0) ∧ ((((0 : Int) = 0) ∧ (0 ≤ p ∧ p < 60)) ∧ ((0 : Int) = 0))) (pc' := 78) (ls' := [some (aR 20 (0 : Int)), some (aI p), some (aI s)]) (st' := [aR 40 (0 : Int), aL (S 24 0 p)]) (S' := S) rfl ⟨rfl, ⟨rfl, (by omega)⟩, rfl⟩ ?_
      refine es_sg 3 (p := ((0 : Int) = 0) ∧ (0 ≤ p ∧ p < 60)) (pc' := 81) (ls' := [some (aR 20 (0 : Int)), some (aI p), some (aI s)]) (st' := [aL ((S 24 0 p) - (S 40 0 p))]) (S' := S) rfl ⟨rfl, (by omega)⟩ ?_
      refine es_lret rfl ?_
      have e := h
      unfold lbX at e
      first
        | (rw [if_pos (by omega)] at e; rw [ex, ew]; exact e)
        | (rw [if_neg (by omega), if_pos (by omega)] at e; rw [ex]; exact e)
        | (rw [if_neg (by omega), if_neg (by omega)] at e; rw [ex, el]; exact e)
        | (exfalso; omega)
    | 3, hn =>
      have g1 : s = 3 := by simpa using hn
      refine ⟨60, 61, rfl, rfl, ?_⟩
      refine es_sg 4 (p := ((0 : Int) = 0) ∧ (((0 : Int) = 0) ∧ (0 ≤ p ∧ p < 60))) (pc' := 67) (ls' := [some (aR 20 (0 : Int)), some (aI p), some (aI s)]) (st' := [aL (S 24 0 p)]) (S' := S) rfl ⟨rfl, ⟨rfl, (by omega)⟩⟩ ?_
      refine es_lret rfl ?_
      have e := h
      unfold lbX at e
      first
        | (rw [if_pos (by omega)] at e; rw [ex, ew]; exact e)
        | (rw [if_neg (by omega), if_pos (by omega)] at e; rw [ex]; exact e)
        | (rw [if_neg (by omega), if_neg (by omega)] at e; rw [ex, el]; exact e)
        | (exfalso; omega)
    | 4, hn =>
      have g1 : s = 4 := by simpa using hn
      refine ⟨47, 48, rfl, rfl, ?_⟩
      refine es_sg 6 (p := ((0 : Int) = 0) ∧ (((0 : Int) = 0) ∧ (0 ≤ p ∧ p < 60))) (pc' := 56) (ls' := [some (aR 20 (0 : Int)), some (aI p), some (aI s)]) (st' := [aI p, aR 20 (0 : Int), aL (S 24 0 p)]) (S' := S) rfl ⟨rfl, ⟨rfl, (by omega)⟩⟩ ?_
      refine es_callV rfl rfl 20 (0 : Int) [aI p] [aL (S 24 0 p)] rfl rfl rfl rfl (Nat.le_of_ble_eq_true rfl) (Nat.le_of_ble_eq_true rfl) (Nat.le_of_ble_eq_true rfl) ?_
      refine n57 (S := S) (i := p) (by omega) (show 0 ≤ S 26 0 p ∧ S 26 0 p < 4 from by omega) ?_
      show Es G 107 59 [some (aR 20 (0 : Int)), some (aI p), some (aI s)] [aL (rW S p), aL (S 24 0 p)] S _ _
      refine es_s0 1 (pc' := 60) (ls' := [some (aR 20 (0 : Int)), some (aI p), some (aI s)]) (st' := [aL ((S 24 0 p) + (rW S p))]) (S' := S) rfl ?_
      refine es_lret rfl ?_
      have e := h
      unfold lbX at e
      first
        | (rw [if_pos (by omega)] at e; rw [ex, ew]; exact e)
        | (rw [if_neg (by omega), if_pos (by omega)] at e; rw [ex]; exact e)
        | (rw [if_neg (by omega), if_neg (by omega)] at e; rw [ex, el]; exact e)
        | (exfalso; omega)
    | 5, hn =>
      have g1 : s = 5 := by simpa using hn
      refine ⟨67, 68, rfl, rfl, ?_⟩
      refine es_sg 6 (p := ((0 : Int) = 0) ∧ ((((0 : Int) = 0) ∧ (0 ≤ p ∧ p < 60)) ∧ ((0 : Int) = 0))) (pc' := 78) (ls' := [some (aR 20 (0 : Int)), some (aI p), some (aI s)]) (st' := [aR 40 (0 : Int), aL (S 24 0 p)]) (S' := S) rfl ⟨rfl, ⟨rfl, (by omega)⟩, rfl⟩ ?_
      refine es_sg 3 (p := ((0 : Int) = 0) ∧ (0 ≤ p ∧ p < 60)) (pc' := 81) (ls' := [some (aR 20 (0 : Int)), some (aI p), some (aI s)]) (st' := [aL ((S 24 0 p) - (S 40 0 p))]) (S' := S) rfl ⟨rfl, (by omega)⟩ ?_
      refine es_lret rfl ?_
      have e := h
      unfold lbX at e
      first
        | (rw [if_pos (by omega)] at e; rw [ex, ew]; exact e)
        | (rw [if_neg (by omega), if_pos (by omega)] at e; rw [ex]; exact e)
        | (rw [if_neg (by omega), if_neg (by omega)] at e; rw [ex, el]; exact e)
        | (exfalso; omega)
    | 6, hn =>
      have g1 : s = 6 := by simpa using hn
      refine ⟨67, 68, rfl, rfl, ?_⟩
      refine es_sg 6 (p := ((0 : Int) = 0) ∧ ((((0 : Int) = 0) ∧ (0 ≤ p ∧ p < 60)) ∧ ((0 : Int) = 0))) (pc' := 78) (ls' := [some (aR 20 (0 : Int)), some (aI p), some (aI s)]) (st' := [aR 40 (0 : Int), aL (S 24 0 p)]) (S' := S) rfl ⟨rfl, ⟨rfl, (by omega)⟩, rfl⟩ ?_
      refine es_sg 3 (p := ((0 : Int) = 0) ∧ (0 ≤ p ∧ p < 60)) (pc' := 81) (ls' := [some (aR 20 (0 : Int)), some (aI p), some (aI s)]) (st' := [aL ((S 24 0 p) - (S 40 0 p))]) (S' := S) rfl ⟨rfl, (by omega)⟩ ?_
      refine es_lret rfl ?_
      have e := h
      unfold lbX at e
      first
        | (rw [if_pos (by omega)] at e; rw [ex, ew]; exact e)
        | (rw [if_neg (by omega), if_pos (by omega)] at e; rw [ex]; exact e)
        | (rw [if_neg (by omega), if_neg (by omega)] at e; rw [ex, el]; exact e)
        | (exfalso; omega)
    | 7, hn =>
      have g1 : s = 7 := by simpa using hn
      refine ⟨47, 48, rfl, rfl, ?_⟩
      refine es_sg 6 (p := ((0 : Int) = 0) ∧ (((0 : Int) = 0) ∧ (0 ≤ p ∧ p < 60))) (pc' := 56) (ls' := [some (aR 20 (0 : Int)), some (aI p), some (aI s)]) (st' := [aI p, aR 20 (0 : Int), aL (S 24 0 p)]) (S' := S) rfl ⟨rfl, ⟨rfl, (by omega)⟩⟩ ?_
      refine es_callV rfl rfl 20 (0 : Int) [aI p] [aL (S 24 0 p)] rfl rfl rfl rfl (Nat.le_of_ble_eq_true rfl) (Nat.le_of_ble_eq_true rfl) (Nat.le_of_ble_eq_true rfl) ?_
      refine n57 (S := S) (i := p) (by omega) (show 0 ≤ S 26 0 p ∧ S 26 0 p < 4 from by omega) ?_
      show Es G 107 59 [some (aR 20 (0 : Int)), some (aI p), some (aI s)] [aL (rW S p), aL (S 24 0 p)] S _ _
      refine es_s0 1 (pc' := 60) (ls' := [some (aR 20 (0 : Int)), some (aI p), some (aI s)]) (st' := [aL ((S 24 0 p) + (rW S p))]) (S' := S) rfl ?_
      refine es_lret rfl ?_
      have e := h
      unfold lbX at e
      first
        | (rw [if_pos (by omega)] at e; rw [ex, ew]; exact e)
        | (rw [if_neg (by omega), if_pos (by omega)] at e; rw [ex]; exact e)
        | (rw [if_neg (by omega), if_neg (by omega)] at e; rw [ex, el]; exact e)
        | (exfalso; omega)
    | n + 8, hn => exact absurd hb (by omega)
theorem n108 {G : Gw} {S : Sg} {k : Nat} {Q : AQ} {A : Sg} {p s : Int} (hp : 0 ≤ p ∧ p < 60) (hs : 0 ≤ s ∧ s < 8) (hx : okXY A p) (hR : RR A S) (hl : A 1 p 8 = 1) (h : Q (.inl (some (aL (lbY A p s)))) S) : Es G 108 0 (aEnt 3 [aR 20 (0 : Int), aI p, aI s]) [] S (k + 1) Q := by
  have ex : S 25 0 p = A 1 p 3 := (hR.2.1 p hp.1 hp.2).2.2.2.1
  have et : S 26 0 p = A 1 p 4 := (hR.2.1 p hp.1 hp.2).2.2.2.2.1
  have ew : rH S p = pH A p := (rWH hR hp).2
  have hlb := hR.2.2.2.2.2.2 p hp.1 hp.2
  have el : S 41 0 p = A 1 p 10 := by exact (hlb.2 hl).1
  unfold okXY at hx
  refine es_rg (fun hg1 => ?_)
  refine es_s0 1 (pc' := 1) (ls' := [some (aR 20 (0 : Int)), some (aI p), some (aI s)]) (st' := [aI s]) (S' := S) rfl ?_
  refine es_ts rfl ⟨by omega, by omega⟩ (fun (g1 : s < 0 ∨ 5 < s) => ⟨60, rfl, ?_⟩) (fun n hn hb => ?_)
  · refine es_sg 6 (p := ((0 : Int) = 0) ∧ ((((0 : Int) = 0) ∧ (0 ≤ p ∧ p < 60)) ∧ ((0 : Int) = 0))) (pc' := 70) (ls' := [some (aR 20 (0 : Int)), some (aI p), some (aI s)]) (st' := [aR 41 (0 : Int), aL (S 25 0 p)]) (S' := S) rfl ⟨rfl, ⟨rfl, (by omega)⟩, rfl⟩ ?_
    refine es_sg 3 (p := ((0 : Int) = 0) ∧ (0 ≤ p ∧ p < 60)) (pc' := 73) (ls' := [some (aR 20 (0 : Int)), some (aI p), some (aI s)]) (st' := [aL ((S 25 0 p) - (S 41 0 p))]) (S' := S) rfl ⟨rfl, (by omega)⟩ ?_
    refine es_lret rfl ?_
    have e := h
    unfold lbY at e
    first
      | (rw [if_pos (by omega)] at e; rw [ex, ew]; exact e)
      | (rw [if_neg (by omega), if_pos (by omega)] at e; rw [ex]; exact e)
      | (rw [if_neg (by omega), if_neg (by omega)] at e; rw [ex, el]; exact e)
      | (exfalso; omega)
  · match n, hn with
    | 0, hn =>
      have g1 : s = 0 := by simpa using hn
      refine ⟨39, 40, rfl, rfl, ?_⟩
      refine es_sg 4 (p := ((0 : Int) = 0) ∧ (((0 : Int) = 0) ∧ (0 ≤ p ∧ p < 60))) (pc' := 46) (ls' := [some (aR 20 (0 : Int)), some (aI p), some (aI s)]) (st' := [aL (S 25 0 p)]) (S' := S) rfl ⟨rfl, ⟨rfl, (by omega)⟩⟩ ?_
      refine es_lret rfl ?_
      have e := h
      unfold lbY at e
      first
        | (rw [if_pos (by omega)] at e; rw [ex, ew]; exact e)
        | (rw [if_neg (by omega), if_pos (by omega)] at e; rw [ex]; exact e)
        | (rw [if_neg (by omega), if_neg (by omega)] at e; rw [ex, el]; exact e)
        | (exfalso; omega)
    | 1, hn =>
      have g1 : s = 1 := by simpa using hn
      refine ⟨46, 47, rfl, rfl, ?_⟩
      refine es_sg 6 (p := ((0 : Int) = 0) ∧ (((0 : Int) = 0) ∧ (0 ≤ p ∧ p < 60))) (pc' := 55) (ls' := [some (aR 20 (0 : Int)), some (aI p), some (aI s)]) (st' := [aI p, aR 20 (0 : Int), aL (S 25 0 p)]) (S' := S) rfl ⟨rfl, ⟨rfl, (by omega)⟩⟩ ?_
      refine es_callV rfl rfl 20 (0 : Int) [aI p] [aL (S 25 0 p)] rfl rfl rfl rfl (Nat.le_of_ble_eq_true rfl) (Nat.le_of_ble_eq_true rfl) (Nat.le_of_ble_eq_true rfl) ?_
      refine n58 (S := S) (i := p) (by omega) (show 0 ≤ S 26 0 p ∧ S 26 0 p < 4 from by omega) ?_
      show Es G 108 58 [some (aR 20 (0 : Int)), some (aI p), some (aI s)] [aL (rH S p), aL (S 25 0 p)] S _ _
      refine es_s0 1 (pc' := 59) (ls' := [some (aR 20 (0 : Int)), some (aI p), some (aI s)]) (st' := [aL ((S 25 0 p) + (rH S p))]) (S' := S) rfl ?_
      refine es_lret rfl ?_
      have e := h
      unfold lbY at e
      first
        | (rw [if_pos (by omega)] at e; rw [ex, ew]; exact e)
        | (rw [if_neg (by omega), if_pos (by omega)] at e; rw [ex]; exact e)
        | (rw [if_neg (by omega), if_neg (by omega)] at e; rw [ex, el]; exact e)
        | (exfalso; omega)
    | 2, hn =>
      have g1 : s = 2 := by simpa using hn
      refine ⟨39, 40, rfl, rfl, ?_⟩
      refine es_sg 4 (p := ((0 : Int) = 0) ∧ (((0 : Int) = 0) ∧ (0 ≤ p ∧ p < 60))) (pc' := 46) (ls' := [some (aR 20 (0 : Int)), some (aI p), some (aI s)]) (st' := [aL (S 25 0 p)]) (S' := S) rfl ⟨rfl, ⟨rfl, (by omega)⟩⟩ ?_
      refine es_lret rfl ?_
      have e := h
      unfold lbY at e
      first
        | (rw [if_pos (by omega)] at e; rw [ex, ew]; exact e)
        | (rw [if_neg (by omega), if_pos (by omega)] at e; rw [ex]; exact e)
        | (rw [if_neg (by omega), if_neg (by omega)] at e; rw [ex, el]; exact e)
        | (exfalso; omega)
    | 3, hn =>
      have g1 : s = 3 := by simpa using hn
      refine ⟨59, 60, rfl, rfl, ?_⟩
      refine es_sg 6 (p := ((0 : Int) = 0) ∧ ((((0 : Int) = 0) ∧ (0 ≤ p ∧ p < 60)) ∧ ((0 : Int) = 0))) (pc' := 70) (ls' := [some (aR 20 (0 : Int)), some (aI p), some (aI s)]) (st' := [aR 41 (0 : Int), aL (S 25 0 p)]) (S' := S) rfl ⟨rfl, ⟨rfl, (by omega)⟩, rfl⟩ ?_
      refine es_sg 3 (p := ((0 : Int) = 0) ∧ (0 ≤ p ∧ p < 60)) (pc' := 73) (ls' := [some (aR 20 (0 : Int)), some (aI p), some (aI s)]) (st' := [aL ((S 25 0 p) - (S 41 0 p))]) (S' := S) rfl ⟨rfl, (by omega)⟩ ?_
      refine es_lret rfl ?_
      have e := h
      unfold lbY at e
      first
        | (rw [if_pos (by omega)] at e; rw [ex, ew]; exact e)
        | (rw [if_neg (by omega), if_pos (by omega)] at e; rw [ex]; exact e)
        | (rw [if_neg (by omega), if_neg (by omega)] at e; rw [ex, el]; exact e)
        | (exfalso; omega)
    | 4, hn =>
      have g1 : s = 4 := by simpa using hn
      refine ⟨46, 47, rfl, rfl, ?_⟩
      refine es_sg 6 (p := ((0 : Int) = 0) ∧ (((0 : Int) = 0) ∧ (0 ≤ p ∧ p < 60))) (pc' := 55) (ls' := [some (aR 20 (0 : Int)), some (aI p), some (aI s)]) (st' := [aI p, aR 20 (0 : Int), aL (S 25 0 p)]) (S' := S) rfl ⟨rfl, ⟨rfl, (by omega)⟩⟩ ?_
      refine es_callV rfl rfl 20 (0 : Int) [aI p] [aL (S 25 0 p)] rfl rfl rfl rfl (Nat.le_of_ble_eq_true rfl) (Nat.le_of_ble_eq_true rfl) (Nat.le_of_ble_eq_true rfl) ?_
      refine n58 (S := S) (i := p) (by omega) (show 0 ≤ S 26 0 p ∧ S 26 0 p < 4 from by omega) ?_
      show Es G 108 58 [some (aR 20 (0 : Int)), some (aI p), some (aI s)] [aL (rH S p), aL (S 25 0 p)] S _ _
      refine es_s0 1 (pc' := 59) (ls' := [some (aR 20 (0 : Int)), some (aI p), some (aI s)]) (st' := [aL ((S 25 0 p) + (rH S p))]) (S' := S) rfl ?_
      refine es_lret rfl ?_
      have e := h
      unfold lbY at e
      first
        | (rw [if_pos (by omega)] at e; rw [ex, ew]; exact e)
        | (rw [if_neg (by omega), if_pos (by omega)] at e; rw [ex]; exact e)
        | (rw [if_neg (by omega), if_neg (by omega)] at e; rw [ex, el]; exact e)
        | (exfalso; omega)
    | 5, hn =>
      have g1 : s = 5 := by simpa using hn
      refine ⟨46, 47, rfl, rfl, ?_⟩
      refine es_sg 6 (p := ((0 : Int) = 0) ∧ (((0 : Int) = 0) ∧ (0 ≤ p ∧ p < 60))) (pc' := 55) (ls' := [some (aR 20 (0 : Int)), some (aI p), some (aI s)]) (st' := [aI p, aR 20 (0 : Int), aL (S 25 0 p)]) (S' := S) rfl ⟨rfl, ⟨rfl, (by omega)⟩⟩ ?_
      refine es_callV rfl rfl 20 (0 : Int) [aI p] [aL (S 25 0 p)] rfl rfl rfl rfl (Nat.le_of_ble_eq_true rfl) (Nat.le_of_ble_eq_true rfl) (Nat.le_of_ble_eq_true rfl) ?_
      refine n58 (S := S) (i := p) (by omega) (show 0 ≤ S 26 0 p ∧ S 26 0 p < 4 from by omega) ?_
      show Es G 108 58 [some (aR 20 (0 : Int)), some (aI p), some (aI s)] [aL (rH S p), aL (S 25 0 p)] S _ _
      refine es_s0 1 (pc' := 59) (ls' := [some (aR 20 (0 : Int)), some (aI p), some (aI s)]) (st' := [aL ((S 25 0 p) + (rH S p))]) (S' := S) rfl ?_
      refine es_lret rfl ?_
      have e := h
      unfold lbY at e
      first
        | (rw [if_pos (by omega)] at e; rw [ex, ew]; exact e)
        | (rw [if_neg (by omega), if_pos (by omega)] at e; rw [ex]; exact e)
        | (rw [if_neg (by omega), if_neg (by omega)] at e; rw [ex, el]; exact e)
        | (exfalso; omega)
    | n + 6, hn => exact absurd hb (by omega)
theorem n114 {G : Gw} {S : Sg} {k : Nat} {Q : AQ} {A : Sg} (hA : CI A) (hR : RR A S) {p a : Int} (hp : r32 p) (ha : r32 a) (t1 : ¬ ((0 ≤ p ∧ p < A 0 0 5) ∧ 0 ≤ a ∧ a < 3) → Q (.inl (some (aL 0))) (su S 20 0 0 1)) (t2 : ((0 ≤ p ∧ p < A 0 0 5) ∧ 0 ≤ a ∧ a < 3) ∧ ¬ A 1 p 8 = 1 → Q (.inl (some (aL 0))) (su S 20 0 0 2)) (h0 : ((0 ≤ p ∧ p < A 0 0 5) ∧ a = 0) ∧ A 1 p 8 = 1 → Q (.inl (some (aL (lbX A p (A 1 p 11))))) (su S 20 0 0 0)) (h1 : ((0 ≤ p ∧ p < A 0 0 5) ∧ a = 1) ∧ A 1 p 8 = 1 → Q (.inl (some (aL (lbY A p (A 1 p 11))))) (su S 20 0 0 0)) (h2 : ((0 ≤ p ∧ p < A 0 0 5) ∧ a = 2) ∧ A 1 p 8 = 1 → Q (.inl (some (aL (A 1 p 11)))) (su S 20 0 0 0)) : Es G 114 0 (aEnt 4 [aR 20 (0 : Int), aI p, aI a]) [] S (k + 2) Q := by
  have n1 := hA.1.1
  have n2 := hA.1.2.1
  have n3 := hA.1.2.2
  have e1 : S 20 0 1 = A 0 0 5 := hR.1.1
  have e10 : S 20 0 10 = A 0 0 6 := hR.1.2.1
  have e17 : S 20 0 17 = A 0 0 7 := hR.1.2.2
  have hlw : 0 ≤ p ∧ p < 60 → (A 1 p 8 = 1 → S 40 0 p = A 1 p 9 ∧ 1 ≤ A 1 p 9 ∧ S 42 0 p = A 1 p 11 ∧ 0 ≤ A 1 p 11 ∧ A 1 p 11 < 8) ∧ (¬ A 1 p 8 = 1 → S 40 0 p = 0) := fun q => by
    obtain ⟨q1, q2⟩ := hR.2.2.2.2.2.2 p q.1 q.2
    refine ⟨fun g => ?_, fun g => ?_⟩
    · rw [if_pos g] at q1
      have := hA.2.2.2.2.2.1 p q.1 q.2 g
      exact ⟨q1, by omega, (q2 g).2, by omega, by omega⟩
    · rw [if_neg g] at q1
      exact q1
  refine es_rg (fun hg1 => ?_)
  refine es_s0 2 (pc' := 2) (ls' := [some (aR 20 (0 : Int)), some (aI p), some (aI a), none]) (st' := [aI p, aR 20 (0 : Int)]) (S' := S) rfl ?_
  refine es_callV rfl rfl 20 (0 : Int) [aI p] [] rfl rfl rfl rfl (Nat.le_of_ble_eq_true rfl) (Nat.le_of_ble_eq_true rfl) (Nat.le_of_ble_eq_true rfl) ?_
  refine n26 (S := S) (n := p) (by assumption) (fun hc2 => ?_) (fun hc2 => ?_)
  · show Es G 114 5 [some (aR 20 (0 : Int)), some (aI p), some (aI a), none] [aI (1 : Int)] S _ _
    refine es_if rfl 21 rfl ⟨by decide, by decide⟩ (fun (g5 : (1 : Int) = (0 : Int)) => absurd g5 (by decide)) (fun (g5 : ¬ ((1 : Int) = (0 : Int))) => ?_)
    refine es_s0 1 (pc' := 9) (ls' := [some (aR 20 (0 : Int)), some (aI p), some (aI a), none]) (st' := [aI a]) (S' := S) rfl ?_
    refine es_if rfl 21 rfl (by assumption) (fun (g9 : a < (0 : Int)) => ?_) (fun (g9 : ¬ (a < (0 : Int))) => ?_)
    · refine es_s0 4 (pc' := 25) (ls' := [some (aR 20 (0 : Int)), some (aI p), some (aI a), some (aI (0 : Int))]) (st' := [aI (0 : Int), aR 20 (0 : Int)]) (S' := S) rfl ?_
      refine es_if rfl 32 rfl ⟨by decide, by decide⟩ (fun (g25 : ¬ (0 : Int) = (0 : Int)) => absurd g25 (by decide)) (fun (g25 : ¬ (¬ (0 : Int) = (0 : Int))) => ?_)
      refine es_sg 3 (p := ((0 : Int) = 0) ∧ (r32 (1 : Int))) (pc' := 51) (ls' := [some (aR 20 (0 : Int)), some (aI p), some (aI a), some (aI (0 : Int))]) (st' := []) (S' := su S 20 0 0 1) rfl ⟨rfl, ⟨by decide, by decide⟩⟩ ?_
      refine es_rg (fun hg2 => ?_)
      refine es_sg 2 (p := (0 : Int) = 0) (pc' := 55) (ls' := [some (aR 20 (0 : Int)), some (aI p), some (aI a), some (aI (0 : Int))]) (st' := [aI (1 : Int)]) (S' := su S 20 0 0 1) rfl rfl ?_
      refine es_if rfl 60 rfl ⟨by omega, by omega⟩ (fun (g55 : (1 : Int) = (0 : Int)) => absurd g55 (by decide)) (fun (g55 : ¬ ((1 : Int) = (0 : Int))) => ?_)
      refine es_s0 1 (pc' := 59) (ls' := [some (aR 20 (0 : Int)), some (aI p), some (aI a), some (aI (0 : Int))]) (st' := [aL (0 : Int)]) (S' := su S 20 0 0 1) rfl ?_
      refine es_lret rfl ?_
      first | exact t1 (by omega) | (exfalso; omega)
    · refine es_s0 2 (pc' := 14) (ls' := [some (aR 20 (0 : Int)), some (aI p), some (aI a), none]) (st' := [aI (3 : Int), aI a]) (S' := S) rfl ?_
      refine es_icmp rfl 21 rfl (by assumption) ⟨by decide, by decide⟩ (fun (g14 : (3 : Int) ≤ a) => ?_) (fun (g14 : ¬ ((3 : Int) ≤ a)) => ?_)
      · refine es_s0 4 (pc' := 25) (ls' := [some (aR 20 (0 : Int)), some (aI p), some (aI a), some (aI (0 : Int))]) (st' := [aI (0 : Int), aR 20 (0 : Int)]) (S' := S) rfl ?_
        refine es_if rfl 32 rfl ⟨by decide, by decide⟩ (fun (g25 : ¬ (0 : Int) = (0 : Int)) => absurd g25 (by decide)) (fun (g25 : ¬ (¬ (0 : Int) = (0 : Int))) => ?_)
        refine es_sg 3 (p := ((0 : Int) = 0) ∧ (r32 (1 : Int))) (pc' := 51) (ls' := [some (aR 20 (0 : Int)), some (aI p), some (aI a), some (aI (0 : Int))]) (st' := []) (S' := su S 20 0 0 1) rfl ⟨rfl, ⟨by decide, by decide⟩⟩ ?_
        refine es_rg (fun hg3 => ?_)
        refine es_sg 2 (p := (0 : Int) = 0) (pc' := 55) (ls' := [some (aR 20 (0 : Int)), some (aI p), some (aI a), some (aI (0 : Int))]) (st' := [aI (1 : Int)]) (S' := su S 20 0 0 1) rfl rfl ?_
        refine es_if rfl 60 rfl ⟨by omega, by omega⟩ (fun (g55 : (1 : Int) = (0 : Int)) => absurd g55 (by decide)) (fun (g55 : ¬ ((1 : Int) = (0 : Int))) => ?_)
        refine es_s0 1 (pc' := 59) (ls' := [some (aR 20 (0 : Int)), some (aI p), some (aI a), some (aI (0 : Int))]) (st' := [aL (0 : Int)]) (S' := su S 20 0 0 1) rfl ?_
        refine es_lret rfl ?_
        first | exact t1 (by omega) | (exfalso; omega)
      · refine es_s0 5 (pc' := 25) (ls' := [some (aR 20 (0 : Int)), some (aI p), some (aI a), some (aI (1 : Int))]) (st' := [aI (1 : Int), aR 20 (0 : Int)]) (S' := S) rfl ?_
        refine es_if rfl 32 rfl ⟨by decide, by decide⟩ (fun (g25 : ¬ (1 : Int) = (0 : Int)) => ?_) (fun (g25 : ¬ (¬ (1 : Int) = (0 : Int))) => absurd g25 (by decide))
        refine es_sg 4 (p := ((0 : Int) = 0) ∧ (((0 : Int) = 0) ∧ (0 ≤ p ∧ p < 60))) (pc' := 38) (ls' := [some (aR 20 (0 : Int)), some (aI p), some (aI a), some (aI (1 : Int))]) (st' := [aL (S 40 0 p), aR 20 (0 : Int)]) (S' := S) rfl ⟨rfl, ⟨rfl, (by omega)⟩⟩ ?_
        refine es_s0 1 (pc' := 39) (ls' := [some (aR 20 (0 : Int)), some (aI p), some (aI a), some (aI (1 : Int))]) (st' := [aL (0 : Int), aL (S 40 0 p), aR 20 (0 : Int)]) (S' := S) rfl ?_
        refine es_lif rfl rfl 47 rfl (rgL hg1 (t := 40) (i := (0 : Int)) (q := p) (by omega : 0 ≤ (0 : Int) ∧ (0 : Int) < 1) (by omega) rfl) ⟨by decide, by decide⟩ (fun (g39 : (S 40 0 p) ≤ (0 : Int)) => ?_) (fun (g39 : ¬ ((S 40 0 p) ≤ (0 : Int))) => ?_)
        · refine es_sg 2 (p := ((0 : Int) = 0) ∧ (r32 (2 : Int))) (pc' := 51) (ls' := [some (aR 20 (0 : Int)), some (aI p), some (aI a), some (aI (1 : Int))]) (st' := []) (S' := su S 20 0 0 2) rfl ⟨rfl, ⟨by decide, by decide⟩⟩ ?_
          refine es_rg (fun hg4 => ?_)
          refine es_sg 2 (p := (0 : Int) = 0) (pc' := 55) (ls' := [some (aR 20 (0 : Int)), some (aI p), some (aI a), some (aI (1 : Int))]) (st' := [aI (2 : Int)]) (S' := su S 20 0 0 2) rfl rfl ?_
          refine es_if rfl 60 rfl ⟨by omega, by omega⟩ (fun (g55 : (2 : Int) = (0 : Int)) => absurd g55 (by decide)) (fun (g55 : ¬ ((2 : Int) = (0 : Int))) => ?_)
          refine es_s0 1 (pc' := 59) (ls' := [some (aR 20 (0 : Int)), some (aI p), some (aI a), some (aI (1 : Int))]) (st' := [aL (0 : Int)]) (S' := su S 20 0 0 2) rfl ?_
          refine es_lret rfl ?_
          first | exact t2 (by omega) | (exfalso; omega)
        · refine es_sg 3 (p := ((0 : Int) = 0) ∧ (r32 (0 : Int))) (pc' := 51) (ls' := [some (aR 20 (0 : Int)), some (aI p), some (aI a), some (aI (1 : Int))]) (st' := []) (S' := su S 20 0 0 0) rfl ⟨rfl, ⟨by decide, by decide⟩⟩ ?_
          refine es_rg (fun hg5 => ?_)
          refine es_sg 2 (p := (0 : Int) = 0) (pc' := 55) (ls' := [some (aR 20 (0 : Int)), some (aI p), some (aI a), some (aI (1 : Int))]) (st' := [aI (0 : Int)]) (S' := su S 20 0 0 0) rfl rfl ?_
          refine es_if rfl 60 rfl ⟨by omega, by omega⟩ (fun (g55 : (0 : Int) = (0 : Int)) => ?_) (fun (g55 : ¬ ((0 : Int) = (0 : Int))) => absurd g55 (by decide))
          refine es_s0 1 (pc' := 61) (ls' := [some (aR 20 (0 : Int)), some (aI p), some (aI a), some (aI (1 : Int))]) (st' := [aI a]) (S' := su S 20 0 0 0) rfl ?_
          refine es_if rfl 78 rfl (by assumption) (fun (g61 : ¬ a = (0 : Int)) => ?_) (fun (g61 : ¬ (¬ a = (0 : Int))) => ?_)
          · refine es_s0 2 (pc' := 80) (ls' := [some (aR 20 (0 : Int)), some (aI p), some (aI a), some (aI (1 : Int))]) (st' := [aI (1 : Int), aI a]) (S' := su S 20 0 0 0) rfl ?_
            refine es_icmp rfl 97 rfl (by assumption) ⟨by decide, by decide⟩ (fun (g80 : ¬ a = (1 : Int)) => ?_) (fun (g80 : ¬ (¬ a = (1 : Int))) => ?_)
            · refine es_sg 5 (p := ((0 : Int) = 0) ∧ ((((0 : Int) = 0) ∧ (0 ≤ p ∧ p < 60)) ∧ (r32 (S 42 0 p)))) (pc' := 104) (ls' := [some (aR 20 (0 : Int)), some (aI p), some (aI a), some (aI (1 : Int))]) (st' := [aL (S 42 0 p)]) (S' := su S 20 0 0 0) rfl ⟨rfl, ⟨rfl, (by omega)⟩, (rgI hg1 (t := 42) (i := (0 : Int)) (q := p) (by omega : 0 ≤ (0 : Int) ∧ (0 : Int) < 1) (by omega) rfl)⟩ ?_
              refine es_lret rfl ?_
              have es : S 42 0 p = A 1 p 11 := by omega
              have e := h2 (by omega)
              rw [← es] at e
              exact e
            · refine es_sg 6 (p := ((0 : Int) = 0) ∧ (((0 : Int) = 0) ∧ (0 ≤ p ∧ p < 60))) (pc' := 91) (ls' := [some (aR 20 (0 : Int)), some (aI p), some (aI a), some (aI (1 : Int))]) (st' := [aI (S 42 0 p), aI p, aR 20 (0 : Int)]) (S' := su S 20 0 0 0) rfl ⟨rfl, ⟨rfl, (by omega)⟩⟩ ?_
              refine es_callV rfl rfl 20 (0 : Int) [aI p, aI (S 42 0 p)] [] rfl rfl rfl rfl (Nat.le_of_ble_eq_true rfl) (Nat.le_of_ble_eq_true rfl) (Nat.le_of_ble_eq_true rfl) ?_
              refine n108 (S := su S 20 0 0 0) (A := A) (p := p) (s := (S 42 0 p)) (by omega) (by omega) ((hA.2.1 p (by omega) (by omega)).1) hR.thr (by omega) ?_
              show Es G 114 94 [some (aR 20 (0 : Int)), some (aI p), some (aI a), some (aI (1 : Int))] [aL (lbY A p (S 42 0 p))] (su S 20 0 0 0) _ _
              refine es_s0 1 (pc' := 104) (ls' := [some (aR 20 (0 : Int)), some (aI p), some (aI a), some (aI (1 : Int))]) (st' := [aL (lbY A p (S 42 0 p))]) (S' := su S 20 0 0 0) rfl ?_
              refine es_lret rfl ?_
              have es : S 42 0 p = A 1 p 11 := by omega
              have e := h1 (by omega)
              rw [← es] at e
              exact e
          · refine es_sg 6 (p := ((0 : Int) = 0) ∧ (((0 : Int) = 0) ∧ (0 ≤ p ∧ p < 60))) (pc' := 72) (ls' := [some (aR 20 (0 : Int)), some (aI p), some (aI a), some (aI (1 : Int))]) (st' := [aI (S 42 0 p), aI p, aR 20 (0 : Int)]) (S' := su S 20 0 0 0) rfl ⟨rfl, ⟨rfl, (by omega)⟩⟩ ?_
            refine es_callV rfl rfl 20 (0 : Int) [aI p, aI (S 42 0 p)] [] rfl rfl rfl rfl (Nat.le_of_ble_eq_true rfl) (Nat.le_of_ble_eq_true rfl) (Nat.le_of_ble_eq_true rfl) ?_
            refine n107 (S := su S 20 0 0 0) (A := A) (p := p) (s := (S 42 0 p)) (by omega) (by omega) ((hA.2.1 p (by omega) (by omega)).1) hR.thr (by omega) ?_
            show Es G 114 75 [some (aR 20 (0 : Int)), some (aI p), some (aI a), some (aI (1 : Int))] [aL (lbX A p (S 42 0 p))] (su S 20 0 0 0) _ _
            refine es_s0 1 (pc' := 104) (ls' := [some (aR 20 (0 : Int)), some (aI p), some (aI a), some (aI (1 : Int))]) (st' := [aL (lbX A p (S 42 0 p))]) (S' := su S 20 0 0 0) rfl ?_
            refine es_lret rfl ?_
            have es : S 42 0 p = A 1 p 11 := by omega
            have e := h0 (by omega)
            rw [← es] at e
            exact e
  · show Es G 114 5 [some (aR 20 (0 : Int)), some (aI p), some (aI a), none] [aI (0 : Int)] S _ _
    refine es_if rfl 21 rfl ⟨by decide, by decide⟩ (fun (g5 : (0 : Int) = (0 : Int)) => ?_) (fun (g5 : ¬ ((0 : Int) = (0 : Int))) => absurd g5 (by decide))
    refine es_s0 4 (pc' := 25) (ls' := [some (aR 20 (0 : Int)), some (aI p), some (aI a), some (aI (0 : Int))]) (st' := [aI (0 : Int), aR 20 (0 : Int)]) (S' := S) rfl ?_
    refine es_if rfl 32 rfl ⟨by decide, by decide⟩ (fun (g25 : ¬ (0 : Int) = (0 : Int)) => absurd g25 (by decide)) (fun (g25 : ¬ (¬ (0 : Int) = (0 : Int))) => ?_)
    refine es_sg 3 (p := ((0 : Int) = 0) ∧ (r32 (1 : Int))) (pc' := 51) (ls' := [some (aR 20 (0 : Int)), some (aI p), some (aI a), some (aI (0 : Int))]) (st' := []) (S' := su S 20 0 0 1) rfl ⟨rfl, ⟨by decide, by decide⟩⟩ ?_
    refine es_rg (fun hg6 => ?_)
    refine es_sg 2 (p := (0 : Int) = 0) (pc' := 55) (ls' := [some (aR 20 (0 : Int)), some (aI p), some (aI a), some (aI (0 : Int))]) (st' := [aI (1 : Int)]) (S' := su S 20 0 0 1) rfl rfl ?_
    refine es_if rfl 60 rfl ⟨by omega, by omega⟩ (fun (g55 : (1 : Int) = (0 : Int)) => absurd g55 (by decide)) (fun (g55 : ¬ ((1 : Int) = (0 : Int))) => ?_)
    refine es_s0 1 (pc' := 59) (ls' := [some (aR 20 (0 : Int)), some (aI p), some (aI a), some (aI (0 : Int))]) (st' := [aL (0 : Int)]) (S' := su S 20 0 0 1) rfl ?_
    refine es_lret rfl ?_
    first | exact t1 (by omega) | (exfalso; omega)
