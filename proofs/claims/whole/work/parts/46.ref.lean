/-! THE REFERENCE: what is small -/
theorem n12 {G : Gw} {S : Sg} {k : Nat} {Q : AQ} {v : Int} (hv : r64 v) (h1 : 1 ≤ v ∧ v ≤ 1000 → Q (.inl (some (aI 1))) S) (h0 : ¬ (1 ≤ v ∧ v ≤ 1000) → Q (.inl (some (aI 0))) S) : Es G 12 0 (aEnt 2 [aL v]) [] S (k + 0) Q := by
  refine es_rg (fun hg1 => ?_)
  refine es_s0 2 (pc' := 2) (ls' := [some (aL v), none]) (st' := [aL (1 : Int), aL v]) (S' := S) rfl ?_
  refine es_lif rfl rfl 18 rfl (by assumption) ⟨by decide, by decide⟩ (fun (g2 : v < (1 : Int)) => ?_) (fun (g2 : ¬ (v < (1 : Int))) => ?_)
  · refine es_s0 1 (pc' := 19) (ls' := [some (aL v), none]) (st' := [aI (0 : Int)]) (S' := S) rfl ?_
    refine es_iret rfl rfl rfl (Or.inr ⟨rfl, (by decide)⟩) ?_
    first | exact h1 (by omega) | exact h0 (by omega) | (exfalso; omega)
  · refine es_s0 2 (pc' := 10) (ls' := [some (aL v), none]) (st' := [aL (1000 : Int), aL v]) (S' := S) rfl ?_
    refine es_lif rfl rfl 18 rfl (by assumption) ⟨by decide, by decide⟩ (fun (g10 : (1000 : Int) < v) => ?_) (fun (g10 : ¬ ((1000 : Int) < v)) => ?_)
    · refine es_s0 1 (pc' := 19) (ls' := [some (aL v), none]) (st' := [aI (0 : Int)]) (S' := S) rfl ?_
      refine es_iret rfl rfl rfl (Or.inr ⟨rfl, (by decide)⟩) ?_
      first | exact h1 (by omega) | exact h0 (by omega) | (exfalso; omega)
    · refine es_s0 2 (pc' := 19) (ls' := [some (aL v), none]) (st' := [aI (1 : Int)]) (S' := S) rfl ?_
      refine es_iret rfl rfl rfl (Or.inr ⟨rfl, (by decide)⟩) ?_
      first | exact h1 (by omega) | exact h0 (by omega) | (exfalso; omega)
theorem n25 {G : Gw} {S : Sg} {k : Nat} {Q : AQ} {v : Int} (hv : r64 v) (h1 : -1000000 ≤ v ∧ v ≤ 1000000 → Q (.inl (some (aI 1))) S) (h0 : ¬ (-1000000 ≤ v ∧ v ≤ 1000000) → Q (.inl (some (aI 0))) S) : Es G 25 0 (aEnt 2 [aL v]) [] S (k + 0) Q := by
  refine es_rg (fun hg1 => ?_)
  refine es_s0 2 (pc' := 4) (ls' := [some (aL v), none]) (st' := [aL (-1000000 : Int), aL v]) (S' := S) rfl ?_
  refine es_lif rfl rfl 20 rfl (by assumption) ⟨by decide, by decide⟩ (fun (g4 : v < (-1000000 : Int)) => ?_) (fun (g4 : ¬ (v < (-1000000 : Int))) => ?_)
  · refine es_s0 1 (pc' := 21) (ls' := [some (aL v), none]) (st' := [aI (0 : Int)]) (S' := S) rfl ?_
    refine es_iret rfl rfl rfl (Or.inr ⟨rfl, (by decide)⟩) ?_
    first | exact h1 (by omega) | exact h0 (by omega) | (exfalso; omega)
  · refine es_s0 2 (pc' := 12) (ls' := [some (aL v), none]) (st' := [aL (1000000 : Int), aL v]) (S' := S) rfl ?_
    refine es_lif rfl rfl 20 rfl (by assumption) ⟨by decide, by decide⟩ (fun (g12 : (1000000 : Int) < v) => ?_) (fun (g12 : ¬ ((1000000 : Int) < v)) => ?_)
    · refine es_s0 1 (pc' := 21) (ls' := [some (aL v), none]) (st' := [aI (0 : Int)]) (S' := S) rfl ?_
      refine es_iret rfl rfl rfl (Or.inr ⟨rfl, (by decide)⟩) ?_
      first | exact h1 (by omega) | exact h0 (by omega) | (exfalso; omega)
    · refine es_s0 2 (pc' := 21) (ls' := [some (aL v), none]) (st' := [aI (1 : Int)]) (S' := S) rfl ?_
      refine es_iret rfl rfl rfl (Or.inr ⟨rfl, (by decide)⟩) ?_
      first | exact h1 (by omega) | exact h0 (by omega) | (exfalso; omega)
theorem n79 {G : Gw} {S : Sg} {k : Nat} {Q : AQ} {v : Int} (hv : r64 v) (h1 : -3000000 ≤ v ∧ v ≤ 3000000 → Q (.inl (some (aI 1))) S) (h0 : ¬ (-3000000 ≤ v ∧ v ≤ 3000000) → Q (.inl (some (aI 0))) S) : Es G 79 0 (aEnt 2 [aL v]) [] S (k + 0) Q := by
  refine es_rg (fun hg1 => ?_)
  refine es_s0 2 (pc' := 4) (ls' := [some (aL v), none]) (st' := [aL (-3000000 : Int), aL v]) (S' := S) rfl ?_
  refine es_lif rfl rfl 20 rfl (by assumption) ⟨by decide, by decide⟩ (fun (g4 : v < (-3000000 : Int)) => ?_) (fun (g4 : ¬ (v < (-3000000 : Int))) => ?_)
  · refine es_s0 1 (pc' := 21) (ls' := [some (aL v), none]) (st' := [aI (0 : Int)]) (S' := S) rfl ?_
    refine es_iret rfl rfl rfl (Or.inr ⟨rfl, (by decide)⟩) ?_
    first | exact h1 (by omega) | exact h0 (by omega) | (exfalso; omega)
  · refine es_s0 2 (pc' := 12) (ls' := [some (aL v), none]) (st' := [aL (3000000 : Int), aL v]) (S' := S) rfl ?_
    refine es_lif rfl rfl 20 rfl (by assumption) ⟨by decide, by decide⟩ (fun (g12 : (3000000 : Int) < v) => ?_) (fun (g12 : ¬ ((3000000 : Int) < v)) => ?_)
    · refine es_s0 1 (pc' := 21) (ls' := [some (aL v), none]) (st' := [aI (0 : Int)]) (S' := S) rfl ?_
      refine es_iret rfl rfl rfl (Or.inr ⟨rfl, (by decide)⟩) ?_
      first | exact h1 (by omega) | exact h0 (by omega) | (exfalso; omega)
    · refine es_s0 2 (pc' := 21) (ls' := [some (aL v), none]) (st' := [aI (1 : Int)]) (S' := S) rfl ?_
      refine es_iret rfl rfl rfl (Or.inr ⟨rfl, (by decide)⟩) ?_
      first | exact h1 (by omega) | exact h0 (by omega) | (exfalso; omega)
theorem n26 {G : Gw} {S : Sg} {k : Nat} {Q : AQ} {n : Int} (hn : r32 n) (h1 : 0 ≤ n ∧ n < S 20 0 1 → Q (.inl (some (aI 1))) S) (h0 : ¬ (0 ≤ n ∧ n < S 20 0 1) → Q (.inl (some (aI 0))) S) : Es G 26 0 (aEnt 2 [aR 20 (0 : Int), aI n]) [] S (k + 0) Q := by
  refine es_rg (fun hg1 => ?_)
  refine es_s0 1 (pc' := 1) (ls' := [some (aR 20 (0 : Int)), some (aI n)]) (st' := [aI n]) (S' := S) rfl ?_
  refine es_if rfl 16 rfl (by assumption) (fun (g1 : n < (0 : Int)) => ?_) (fun (g1 : ¬ (n < (0 : Int))) => ?_)
  · refine es_s0 1 (pc' := 17) (ls' := [some (aR 20 (0 : Int)), some (aI n)]) (st' := [aI (0 : Int)]) (S' := S) rfl ?_
    refine es_iret rfl rfl rfl (Or.inr ⟨rfl, (by decide)⟩) ?_
    first | exact h1 (by omega) | exact h0 (by omega) | (exfalso; omega)
  · refine es_sg 3 (p := (0 : Int) = 0) (pc' := 9) (ls' := [some (aR 20 (0 : Int)), some (aI n)]) (st' := [aI (S 20 0 1), aI n]) (S' := S) rfl rfl ?_
    refine es_icmp rfl 16 rfl (by assumption) (rgI hg1 (t := 20) (i := (0 : Int)) (q := (1 : Int)) (by omega : 0 ≤ (0 : Int) ∧ (0 : Int) < 1) (by omega) rfl) (fun (g9 : (S 20 0 1) ≤ n) => ?_) (fun (g9 : ¬ ((S 20 0 1) ≤ n)) => ?_)
    · refine es_s0 1 (pc' := 17) (ls' := [some (aR 20 (0 : Int)), some (aI n)]) (st' := [aI (0 : Int)]) (S' := S) rfl ?_
      refine es_iret rfl rfl rfl (Or.inr ⟨rfl, (by decide)⟩) ?_
      first | exact h1 (by omega) | exact h0 (by omega) | (exfalso; omega)
    · refine es_s0 2 (pc' := 17) (ls' := [some (aR 20 (0 : Int)), some (aI n)]) (st' := [aI (1 : Int)]) (S' := S) rfl ?_
      refine es_iret rfl rfl rfl (Or.inr ⟨rfl, (by decide)⟩) ?_
      first | exact h1 (by omega) | exact h0 (by omega) | (exfalso; omega)
theorem n39 {G : Gw} {S : Sg} {k : Nat} {Q : AQ} {n : Int} (hn : r32 n) (h1 : 0 ≤ n ∧ n < S 20 0 10 → Q (.inl (some (aI 1))) S) (h0 : ¬ (0 ≤ n ∧ n < S 20 0 10) → Q (.inl (some (aI 0))) S) : Es G 39 0 (aEnt 2 [aR 20 (0 : Int), aI n]) [] S (k + 0) Q := by
  refine es_rg (fun hg1 => ?_)
  refine es_s0 1 (pc' := 1) (ls' := [some (aR 20 (0 : Int)), some (aI n)]) (st' := [aI n]) (S' := S) rfl ?_
  refine es_if rfl 16 rfl (by assumption) (fun (g1 : n < (0 : Int)) => ?_) (fun (g1 : ¬ (n < (0 : Int))) => ?_)
  · refine es_s0 1 (pc' := 17) (ls' := [some (aR 20 (0 : Int)), some (aI n)]) (st' := [aI (0 : Int)]) (S' := S) rfl ?_
    refine es_iret rfl rfl rfl (Or.inr ⟨rfl, (by decide)⟩) ?_
    first | exact h1 (by omega) | exact h0 (by omega) | (exfalso; omega)
  · refine es_sg 3 (p := (0 : Int) = 0) (pc' := 9) (ls' := [some (aR 20 (0 : Int)), some (aI n)]) (st' := [aI (S 20 0 10), aI n]) (S' := S) rfl rfl ?_
    refine es_icmp rfl 16 rfl (by assumption) (rgI hg1 (t := 20) (i := (0 : Int)) (q := (10 : Int)) (by omega : 0 ≤ (0 : Int) ∧ (0 : Int) < 1) (by omega) rfl) (fun (g9 : (S 20 0 10) ≤ n) => ?_) (fun (g9 : ¬ ((S 20 0 10) ≤ n)) => ?_)
    · refine es_s0 1 (pc' := 17) (ls' := [some (aR 20 (0 : Int)), some (aI n)]) (st' := [aI (0 : Int)]) (S' := S) rfl ?_
      refine es_iret rfl rfl rfl (Or.inr ⟨rfl, (by decide)⟩) ?_
      first | exact h1 (by omega) | exact h0 (by omega) | (exfalso; omega)
    · refine es_s0 2 (pc' := 17) (ls' := [some (aR 20 (0 : Int)), some (aI n)]) (st' := [aI (1 : Int)]) (S' := S) rfl ?_
      refine es_iret rfl rfl rfl (Or.inr ⟨rfl, (by decide)⟩) ?_
      first | exact h1 (by omega) | exact h0 (by omega) | (exfalso; omega)
theorem n84 {G : Gw} {S : Sg} {k : Nat} {Q : AQ} {n : Int} (hn : r32 n) (h1 : 0 ≤ n ∧ n < S 20 0 17 → Q (.inl (some (aI 1))) S) (h0 : ¬ (0 ≤ n ∧ n < S 20 0 17) → Q (.inl (some (aI 0))) S) : Es G 84 0 (aEnt 2 [aR 20 (0 : Int), aI n]) [] S (k + 0) Q := by
  refine es_rg (fun hg1 => ?_)
  refine es_s0 1 (pc' := 1) (ls' := [some (aR 20 (0 : Int)), some (aI n)]) (st' := [aI n]) (S' := S) rfl ?_
  refine es_if rfl 16 rfl (by assumption) (fun (g1 : n < (0 : Int)) => ?_) (fun (g1 : ¬ (n < (0 : Int))) => ?_)
  · refine es_s0 1 (pc' := 17) (ls' := [some (aR 20 (0 : Int)), some (aI n)]) (st' := [aI (0 : Int)]) (S' := S) rfl ?_
    refine es_iret rfl rfl rfl (Or.inr ⟨rfl, (by decide)⟩) ?_
    first | exact h1 (by omega) | exact h0 (by omega) | (exfalso; omega)
  · refine es_sg 3 (p := (0 : Int) = 0) (pc' := 9) (ls' := [some (aR 20 (0 : Int)), some (aI n)]) (st' := [aI (S 20 0 17), aI n]) (S' := S) rfl rfl ?_
    refine es_icmp rfl 16 rfl (by assumption) (rgI hg1 (t := 20) (i := (0 : Int)) (q := (17 : Int)) (by omega : 0 ≤ (0 : Int) ∧ (0 : Int) < 1) (by omega) rfl) (fun (g9 : (S 20 0 17) ≤ n) => ?_) (fun (g9 : ¬ ((S 20 0 17) ≤ n)) => ?_)
    · refine es_s0 1 (pc' := 17) (ls' := [some (aR 20 (0 : Int)), some (aI n)]) (st' := [aI (0 : Int)]) (S' := S) rfl ?_
      refine es_iret rfl rfl rfl (Or.inr ⟨rfl, (by decide)⟩) ?_
      first | exact h1 (by omega) | exact h0 (by omega) | (exfalso; omega)
    · refine es_s0 2 (pc' := 17) (ls' := [some (aR 20 (0 : Int)), some (aI n)]) (st' := [aI (1 : Int)]) (S' := S) rfl ?_
      refine es_iret rfl rfl rfl (Or.inr ⟨rfl, (by decide)⟩) ?_
      first | exact h1 (by omega) | exact h0 (by omega) | (exfalso; omega)
theorem n15 {G : Gw} {S : Sg} {k : Nat} {Q : AQ}  (h : Q (.inl (some (aI (S 20 0 0)))) S) : Es G 15 0 (aEnt 1 [aR 20 (0 : Int)]) [] S (k + 0) Q := by
  refine es_rg (fun hg1 => ?_)
  refine es_sg 2 (p := (0 : Int) = 0) (pc' := 4) (ls' := [some (aR 20 (0 : Int))]) (st' := [aI (S 20 0 0)]) (S' := S) rfl rfl ?_
  refine es_iret rfl rfl rfl (Or.inl rfl) ?_
  exact h
def rW (S : Sg) (i : Int) : Int := if S 26 0 i % 2 = 0 then S 22 0 i else S 23 0 i
def rH (S : Sg) (i : Int) : Int := if S 26 0 i % 2 = 0 then S 23 0 i else S 22 0 i
theorem n57 {G : Gw} {S : Sg} {k : Nat} {Q : AQ} {i : Int} (hi : 0 ≤ i ∧ i < 60) (ht : 0 ≤ S 26 0 i ∧ S 26 0 i < 4) (h : Q (.inl (some (aL (rW S i)))) S) : Es G 57 0 (aEnt 2 [aR 20 (0 : Int), aI i]) [] S (k + 0) Q := by
  refine es_rg (fun hg1 => ?_)
  refine es_sg 6 (p := ((0 : Int) = 0) ∧ ((((0 : Int) = 0) ∧ (0 ≤ i ∧ i < 60)) ∧ ((0 ≤ (S 26 0 i) ∧ (S 26 0 i) < 2147483648) ∧ (0 < (2 : Int) ∧ (2 : Int) < 2147483648)))) (pc' := 8) (ls' := [some (aR 20 (0 : Int)), some (aI i)]) (st' := [aI ((S 26 0 i) % 2)]) (S' := S) rfl ⟨rfl, ⟨rfl, (by omega)⟩, (by omega)⟩ ?_
  refine es_if rfl 20 rfl ⟨by omega, by omega⟩ (fun (g8 : ¬ ((S 26 0 i) % 2) = (0 : Int)) => ?_) (fun (g8 : ¬ (¬ ((S 26 0 i) % 2) = (0 : Int))) => ?_)
  · refine es_sg 4 (p := ((0 : Int) = 0) ∧ (((0 : Int) = 0) ∧ (0 ≤ i ∧ i < 60))) (pc' := 26) (ls' := [some (aR 20 (0 : Int)), some (aI i)]) (st' := [aL (S 23 0 i)]) (S' := S) rfl ⟨rfl, ⟨rfl, (by omega)⟩⟩ ?_
    refine es_lret rfl ?_
    first | (have e := h; unfold rW at e; rw [if_pos (by omega)] at e; exact e) | (have e := h; unfold rW at e; rw [if_neg (by omega)] at e; exact e)
  · refine es_sg 5 (p := ((0 : Int) = 0) ∧ (((0 : Int) = 0) ∧ (0 ≤ i ∧ i < 60))) (pc' := 26) (ls' := [some (aR 20 (0 : Int)), some (aI i)]) (st' := [aL (S 22 0 i)]) (S' := S) rfl ⟨rfl, ⟨rfl, (by omega)⟩⟩ ?_
    refine es_lret rfl ?_
    first | (have e := h; unfold rW at e; rw [if_pos (by omega)] at e; exact e) | (have e := h; unfold rW at e; rw [if_neg (by omega)] at e; exact e)
theorem n58 {G : Gw} {S : Sg} {k : Nat} {Q : AQ} {i : Int} (hi : 0 ≤ i ∧ i < 60) (ht : 0 ≤ S 26 0 i ∧ S 26 0 i < 4) (h : Q (.inl (some (aL (rH S i)))) S) : Es G 58 0 (aEnt 2 [aR 20 (0 : Int), aI i]) [] S (k + 0) Q := by
  refine es_rg (fun hg1 => ?_)
  refine es_sg 6 (p := ((0 : Int) = 0) ∧ ((((0 : Int) = 0) ∧ (0 ≤ i ∧ i < 60)) ∧ ((0 ≤ (S 26 0 i) ∧ (S 26 0 i) < 2147483648) ∧ (0 < (2 : Int) ∧ (2 : Int) < 2147483648)))) (pc' := 8) (ls' := [some (aR 20 (0 : Int)), some (aI i)]) (st' := [aI ((S 26 0 i) % 2)]) (S' := S) rfl ⟨rfl, ⟨rfl, (by omega)⟩, (by omega)⟩ ?_
  refine es_if rfl 20 rfl ⟨by omega, by omega⟩ (fun (g8 : ¬ ((S 26 0 i) % 2) = (0 : Int)) => ?_) (fun (g8 : ¬ (¬ ((S 26 0 i) % 2) = (0 : Int))) => ?_)
  · refine es_sg 4 (p := ((0 : Int) = 0) ∧ (((0 : Int) = 0) ∧ (0 ≤ i ∧ i < 60))) (pc' := 26) (ls' := [some (aR 20 (0 : Int)), some (aI i)]) (st' := [aL (S 22 0 i)]) (S' := S) rfl ⟨rfl, ⟨rfl, (by omega)⟩⟩ ?_
    refine es_lret rfl ?_
    first | (have e := h; unfold rH at e; rw [if_pos (by omega)] at e; exact e) | (have e := h; unfold rH at e; rw [if_neg (by omega)] at e; exact e)
  · refine es_sg 5 (p := ((0 : Int) = 0) ∧ (((0 : Int) = 0) ∧ (0 ≤ i ∧ i < 60))) (pc' := 26) (ls' := [some (aR 20 (0 : Int)), some (aI i)]) (st' := [aL (S 23 0 i)]) (S' := S) rfl ⟨rfl, ⟨rfl, (by omega)⟩⟩ ?_
    refine es_lret rfl ?_
    first | (have e := h; unfold rH at e; rw [if_pos (by omega)] at e; exact e) | (have e := h; unfold rH at e; rw [if_neg (by omega)] at e; exact e)
/-- a part more -/
def gAdd (S : Sg) (w h : Int) : Sg := su (su (su (su (su S 22 0 (S 20 0 1) w) 23 0 (S 20 0 1) h) 27 0 (S 20 0 1) (-1)) 28 0 (S 20 0 1) (-1)) 20 0 1 (S 20 0 1 + 1)
/-- a part is laid -/
def gMv (S : Sg) (i x y t : Int) : Sg := su (su (su S 24 0 i x) 25 0 i y) 26 0 i t
theorem n13 {G : Gw} {S : Sg} {k : Nat} {Q : AQ} (hnp : 0 ≤ S 20 0 1 ∧ S 20 0 1 < 60) {w h : Int} (hw : r64 w) (hh : r64 h) (h0 : Q (.inl none) (gAdd S w h)) : Es G 13 0 (aEnt 5 [aR 20 (0 : Int), aL w, aL h]) [] S (k + 0) Q := by
  refine es_rg (fun hg1 => ?_)
  refine es_sg 6 (p := ((0 : Int) = 0) ∧ (((0 : Int) = 0) ∧ ((((0 : Int) = 0) ∧ (0 ≤ (S 20 0 1) ∧ (S 20 0 1) < 60)) ∧ (r64 w)))) (pc' := 10) (ls' := [some (aR 20 (0 : Int)), some (aL w), none, some (aL h), none]) (st' := []) (S' := su S 22 0 (S 20 0 1) w) rfl ⟨rfl, rfl, ⟨⟨rfl, (by omega)⟩, (by assumption)⟩⟩ ?_
  refine es_rg (fun hg2 => ?_)
  refine es_sg 6 (p := ((0 : Int) = 0) ∧ (((0 : Int) = 0) ∧ ((((0 : Int) = 0) ∧ (0 ≤ (S 20 0 1) ∧ (S 20 0 1) < 60)) ∧ (r64 h)))) (pc' := 20) (ls' := [some (aR 20 (0 : Int)), some (aL w), none, some (aL h), none]) (st' := []) (S' := su (su S 22 0 (S 20 0 1) w) 23 0 (S 20 0 1) h) rfl ⟨rfl, rfl, ⟨⟨rfl, (by omega)⟩, (by assumption)⟩⟩ ?_
  refine es_rg (fun hg3 => ?_)
  refine es_sg 6 (p := ((0 : Int) = 0) ∧ (((0 : Int) = 0) ∧ ((((0 : Int) = 0) ∧ (0 ≤ (S 20 0 1) ∧ (S 20 0 1) < 60)) ∧ (r32 (-1 : Int))))) (pc' := 30) (ls' := [some (aR 20 (0 : Int)), some (aL w), none, some (aL h), none]) (st' := []) (S' := su (su (su S 22 0 (S 20 0 1) w) 23 0 (S 20 0 1) h) 27 0 (S 20 0 1) (-1)) rfl ⟨rfl, rfl, ⟨⟨rfl, (by omega)⟩, ⟨by decide, by decide⟩⟩⟩ ?_
  refine es_rg (fun hg4 => ?_)
  refine es_sg 6 (p := ((0 : Int) = 0) ∧ (((0 : Int) = 0) ∧ ((((0 : Int) = 0) ∧ (0 ≤ (S 20 0 1) ∧ (S 20 0 1) < 60)) ∧ (r32 (-1 : Int))))) (pc' := 40) (ls' := [some (aR 20 (0 : Int)), some (aL w), none, some (aL h), none]) (st' := []) (S' := su (su (su (su S 22 0 (S 20 0 1) w) 23 0 (S 20 0 1) h) 27 0 (S 20 0 1) (-1)) 28 0 (S 20 0 1) (-1)) rfl ⟨rfl, rfl, ⟨⟨rfl, (by omega)⟩, ⟨by decide, by decide⟩⟩⟩ ?_
  refine es_rg (fun hg5 => ?_)
  refine es_sg 6 (p := ((0 : Int) = 0) ∧ (((0 : Int) = 0) ∧ (r32 ((S 20 0 1) + 1)))) (pc' := 50) (ls' := [some (aR 20 (0 : Int)), some (aL w), none, some (aL h), none]) (st' := []) (S' := su (su (su (su (su S 22 0 (S 20 0 1) w) 23 0 (S 20 0 1) h) 27 0 (S 20 0 1) (-1)) 28 0 (S 20 0 1) (-1)) 20 0 1 ((S 20 0 1) + 1)) rfl ⟨rfl, ⟨rfl, ⟨by omega, by omega⟩⟩⟩ ?_
  refine es_rg (fun hg6 => ?_)
  refine es_vret rfl ?_
  exact h0
theorem n14 {G : Gw} {S : Sg} {k : Nat} {Q : AQ} (hnp : 0 ≤ S 20 0 1 ∧ S 20 0 1 ≤ 60) {w h : Int} (hw : r64 w) (hh : r64 h) (h0 : ¬ ((1 ≤ w ∧ w ≤ 1000) ∧ (1 ≤ h ∧ h ≤ 1000)) → Q (.inl (some (aI 0))) (su S 20 0 0 1)) (h1 : ((1 ≤ w ∧ w ≤ 1000) ∧ (1 ≤ h ∧ h ≤ 1000)) ∧ S 20 0 1 = 60 → Q (.inl (some (aI (-1)))) (su S 20 0 0 0)) (h2 : ((1 ≤ w ∧ w ≤ 1000) ∧ (1 ≤ h ∧ h ≤ 1000)) ∧ S 20 0 1 < 60 → Q (.inl (some (aI (S 20 0 1)))) (gAdd (su S 20 0 0 0) w h)) : Es G 14 0 (aEnt 5 [aR 20 (0 : Int), aL w, aL h]) [] S (k + 1) Q := by
  refine es_rg (fun hg1 => ?_)
  refine es_s0 2 (pc' := 2) (ls' := [some (aR 20 (0 : Int)), some (aL w), none, some (aL h), none]) (st' := [aL w, aR 20 (0 : Int)]) (S' := S) rfl ?_
  refine es_callS rfl rfl [aL w] [aR 20 (0 : Int)] rfl rfl (Nat.le_of_ble_eq_true rfl) (Nat.le_of_ble_eq_true rfl) (Nat.le_of_ble_eq_true rfl) ?_
  refine n12 (S := S) (v := w) (by assumption) (fun hc2 => ?_) (fun hc2 => ?_)
  · show Es G 14 5 [some (aR 20 (0 : Int)), some (aL w), none, some (aL h), none] [aI (1 : Int), aR 20 (0 : Int)] S _ _
    refine es_if rfl 19 rfl ⟨by decide, by decide⟩ (fun (g5 : (1 : Int) = (0 : Int)) => absurd g5 (by decide)) (fun (g5 : ¬ ((1 : Int) = (0 : Int))) => ?_)
    refine es_s0 1 (pc' := 9) (ls' := [some (aR 20 (0 : Int)), some (aL w), none, some (aL h), none]) (st' := [aL h, aR 20 (0 : Int)]) (S' := S) rfl ?_
    refine es_callS rfl rfl [aL h] [aR 20 (0 : Int)] rfl rfl (Nat.le_of_ble_eq_true rfl) (Nat.le_of_ble_eq_true rfl) (Nat.le_of_ble_eq_true rfl) ?_
    refine n12 (S := S) (v := h) (by assumption) (fun hc9 => ?_) (fun hc9 => ?_)
    · show Es G 14 12 [some (aR 20 (0 : Int)), some (aL w), none, some (aL h), none] [aI (1 : Int), aR 20 (0 : Int)] S _ _
      refine es_if rfl 19 rfl ⟨by decide, by decide⟩ (fun (g12 : (1 : Int) = (0 : Int)) => absurd g12 (by decide)) (fun (g12 : ¬ ((1 : Int) = (0 : Int))) => ?_)
      refine es_sg 3 (p := ((0 : Int) = 0) ∧ (r32 (0 : Int))) (pc' := 23) (ls' := [some (aR 20 (0 : Int)), some (aL w), none, some (aL h), none]) (st' := []) (S' := su S 20 0 0 0) rfl ⟨rfl, ⟨by decide, by decide⟩⟩ ?_
      refine es_rg (fun hg2 => ?_)
      refine es_sg 2 (p := (0 : Int) = 0) (pc' := 27) (ls' := [some (aR 20 (0 : Int)), some (aL w), none, some (aL h), none]) (st' := [aI (0 : Int)]) (S' := su S 20 0 0 0) rfl rfl ?_
      refine es_if rfl 32 rfl ⟨by omega, by omega⟩ (fun (g27 : (0 : Int) = (0 : Int)) => ?_) (fun (g27 : ¬ ((0 : Int) = (0 : Int))) => absurd g27 (by decide))
      refine es_sg 3 (p := (0 : Int) = 0) (pc' := 38) (ls' := [some (aR 20 (0 : Int)), some (aL w), none, some (aL h), none]) (st' := [aI (60 : Int), aI (S 20 0 1)]) (S' := su S 20 0 0 0) rfl rfl ?_
      refine es_icmp rfl 43 rfl (rgI hg1 (t := 20) (i := (0 : Int)) (q := (1 : Int)) (by omega : 0 ≤ (0 : Int) ∧ (0 : Int) < 1) (by omega) rfl) ⟨by decide, by decide⟩ (fun (g38 : ¬ (S 20 0 1) = (60 : Int)) => ?_) (fun (g38 : ¬ (¬ (S 20 0 1) = (60 : Int))) => ?_)
      · refine es_s0 3 (pc' := 46) (ls' := [some (aR 20 (0 : Int)), some (aL w), none, some (aL h), none]) (st' := [aL h, aL w, aR 20 (0 : Int)]) (S' := su S 20 0 0 0) rfl ?_
        refine es_callV rfl rfl 20 (0 : Int) [aL w, aL h] [] rfl rfl rfl rfl (Nat.le_of_ble_eq_true rfl) (Nat.le_of_ble_eq_true rfl) (Nat.le_of_ble_eq_true rfl) ?_
        refine n13 (S := su S 20 0 0 0) (w := w) (h := h) (show 0 ≤ S 20 0 1 ∧ S 20 0 1 < 60 from by omega) (by assumption) (by assumption) ?_
        show Es G 14 49 [some (aR 20 (0 : Int)), some (aL w), none, some (aL h), none] [] (su (su (su (su (su (su S 20 0 0 0) 22 0 (S 20 0 1) w) 23 0 (S 20 0 1) h) 27 0 (S 20 0 1) (-1)) 28 0 (S 20 0 1) (-1)) 20 0 1 ((S 20 0 1) + 1)) _ _
        refine es_rg (fun hg3 => ?_)
        refine es_sg 4 (p := (0 : Int) = 0) (pc' := 55) (ls' := [some (aR 20 (0 : Int)), some (aL w), none, some (aL h), none]) (st' := [aI (((S 20 0 1) + 1) - 1)]) (S' := su (su (su (su (su (su S 20 0 0 0) 22 0 (S 20 0 1) w) 23 0 (S 20 0 1) h) 27 0 (S 20 0 1) (-1)) 28 0 (S 20 0 1) (-1)) 20 0 1 ((S 20 0 1) + 1)) rfl rfl ?_
        refine es_iret rfl rfl rfl (Or.inl rfl) ?_
        rw [show (S 20 0 1 + 1 - 1 : Int) = S 20 0 1 from by omega]; exact h2 (by omega)
      · refine es_s0 1 (pc' := 42) (ls' := [some (aR 20 (0 : Int)), some (aL w), none, some (aL h), none]) (st' := [aI (-1 : Int)]) (S' := su S 20 0 0 0) rfl ?_
        refine es_iret rfl rfl rfl (Or.inl rfl) ?_
        exact h1 (by omega)
    · show Es G 14 12 [some (aR 20 (0 : Int)), some (aL w), none, some (aL h), none] [aI (0 : Int), aR 20 (0 : Int)] S _ _
      refine es_if rfl 19 rfl ⟨by decide, by decide⟩ (fun (g12 : (0 : Int) = (0 : Int)) => ?_) (fun (g12 : ¬ ((0 : Int) = (0 : Int))) => absurd g12 (by decide))
      refine es_sg 2 (p := ((0 : Int) = 0) ∧ (r32 (1 : Int))) (pc' := 23) (ls' := [some (aR 20 (0 : Int)), some (aL w), none, some (aL h), none]) (st' := []) (S' := su S 20 0 0 1) rfl ⟨rfl, ⟨by decide, by decide⟩⟩ ?_
      refine es_rg (fun hg4 => ?_)
      refine es_sg 2 (p := (0 : Int) = 0) (pc' := 27) (ls' := [some (aR 20 (0 : Int)), some (aL w), none, some (aL h), none]) (st' := [aI (1 : Int)]) (S' := su S 20 0 0 1) rfl rfl ?_
      refine es_if rfl 32 rfl ⟨by omega, by omega⟩ (fun (g27 : (1 : Int) = (0 : Int)) => absurd g27 (by decide)) (fun (g27 : ¬ ((1 : Int) = (0 : Int))) => ?_)
      refine es_s0 1 (pc' := 31) (ls' := [some (aR 20 (0 : Int)), some (aL w), none, some (aL h), none]) (st' := [aI (0 : Int)]) (S' := su S 20 0 0 1) rfl ?_
      refine es_iret rfl rfl rfl (Or.inl rfl) ?_
      exact h0 (by omega)
  · show Es G 14 5 [some (aR 20 (0 : Int)), some (aL w), none, some (aL h), none] [aI (0 : Int), aR 20 (0 : Int)] S _ _
    refine es_if rfl 19 rfl ⟨by decide, by decide⟩ (fun (g5 : (0 : Int) = (0 : Int)) => ?_) (fun (g5 : ¬ ((0 : Int) = (0 : Int))) => absurd g5 (by decide))
    refine es_sg 2 (p := ((0 : Int) = 0) ∧ (r32 (1 : Int))) (pc' := 23) (ls' := [some (aR 20 (0 : Int)), some (aL w), none, some (aL h), none]) (st' := []) (S' := su S 20 0 0 1) rfl ⟨rfl, ⟨by decide, by decide⟩⟩ ?_
    refine es_rg (fun hg5 => ?_)
    refine es_sg 2 (p := (0 : Int) = 0) (pc' := 27) (ls' := [some (aR 20 (0 : Int)), some (aL w), none, some (aL h), none]) (st' := [aI (1 : Int)]) (S' := su S 20 0 0 1) rfl rfl ?_
    refine es_if rfl 32 rfl ⟨by omega, by omega⟩ (fun (g27 : (1 : Int) = (0 : Int)) => absurd g27 (by decide)) (fun (g27 : ¬ ((1 : Int) = (0 : Int))) => ?_)
    refine es_s0 1 (pc' := 31) (ls' := [some (aR 20 (0 : Int)), some (aL w), none, some (aL h), none]) (st' := [aI (0 : Int)]) (S' := su S 20 0 0 1) rfl ?_
    refine es_iret rfl rfl rfl (Or.inl rfl) ?_
    exact h0 (by omega)
theorem n27 {G : Gw} {S : Sg} {k : Nat} {Q : AQ} {i x y t : Int} (hi : 0 ≤ i ∧ i < 60) (hx : r64 x) (hy : r64 y) (ht : r32 t) (h1 : ¬ (S 24 0 i = x ∧ S 25 0 i = y ∧ S 26 0 i = t) → Q (.inl (some (aI 1))) (gMv S i x y t)) (h0 : (S 24 0 i = x ∧ S 25 0 i = y ∧ S 26 0 i = t) → Q (.inl (some (aI 0))) (gMv S i x y t)) : Es G 27 0 (aEnt 8 [aR 20 (0 : Int), aI i, aL x, aL y, aI t]) [] S (k + 0) Q := by
  refine es_rg (fun hg1 => ?_)
  refine es_sg 5 (p := ((0 : Int) = 0) ∧ (((0 : Int) = 0) ∧ (0 ≤ i ∧ i < 60))) (pc' := 7) (ls' := [some (aR 20 (0 : Int)), some (aI i), some (aL x), none, some (aL y), none, some (aI t), none]) (st' := [aL x, aL (S 24 0 i)]) (S' := S) rfl ⟨rfl, ⟨rfl, (by omega)⟩⟩ ?_
  refine es_lif rfl rfl 34 rfl (rgL hg1 (t := 24) (i := (0 : Int)) (q := i) (by omega : 0 ≤ (0 : Int) ∧ (0 : Int) < 1) (by omega) rfl) (by assumption) (fun (g7 : ¬ (S 24 0 i) = x) => ?_) (fun (g7 : ¬ (¬ (S 24 0 i) = x)) => ?_)
  · refine es_sg 6 (p := (0 : Int) = 0) (pc' := 46) (ls' := [some (aR 20 (0 : Int)), some (aI i), some (aL x), none, some (aL y), none, some (aI t), some (aI (1 : Int))]) (st' := [aI i, aR 24 (0 : Int)]) (S' := S) rfl rfl ?_
    refine es_sg 2 (p := (((0 : Int) = 0) ∧ (0 ≤ i ∧ i < 60)) ∧ (r64 x)) (pc' := 48) (ls' := [some (aR 20 (0 : Int)), some (aI i), some (aL x), none, some (aL y), none, some (aI t), some (aI (1 : Int))]) (st' := []) (S' := su S 24 0 i x) rfl ⟨⟨rfl, (by omega)⟩, (by assumption)⟩ ?_
    refine es_rg (fun hg2 => ?_)
    refine es_sg 5 (p := ((0 : Int) = 0) ∧ ((((0 : Int) = 0) ∧ (0 ≤ i ∧ i < 60)) ∧ (r64 y))) (pc' := 56) (ls' := [some (aR 20 (0 : Int)), some (aI i), some (aL x), none, some (aL y), none, some (aI t), some (aI (1 : Int))]) (st' := []) (S' := su (su S 24 0 i x) 25 0 i y) rfl ⟨rfl, ⟨⟨rfl, (by omega)⟩, (by assumption)⟩⟩ ?_
    refine es_rg (fun hg3 => ?_)
    refine es_sg 5 (p := ((0 : Int) = 0) ∧ ((((0 : Int) = 0) ∧ (0 ≤ i ∧ i < 60)) ∧ (r32 t))) (pc' := 64) (ls' := [some (aR 20 (0 : Int)), some (aI i), some (aL x), none, some (aL y), none, some (aI t), some (aI (1 : Int))]) (st' := []) (S' := su (su (su S 24 0 i x) 25 0 i y) 26 0 i t) rfl ⟨rfl, ⟨⟨rfl, (by omega)⟩, (by assumption)⟩⟩ ?_
    refine es_rg (fun hg4 => ?_)
    refine es_s0 1 (pc' := 66) (ls' := [some (aR 20 (0 : Int)), some (aI i), some (aL x), none, some (aL y), none, some (aI t), some (aI (1 : Int))]) (st' := [aI (1 : Int)]) (S' := su (su (su S 24 0 i x) 25 0 i y) 26 0 i t) rfl ?_
    refine es_iret rfl rfl rfl (Or.inr ⟨rfl, (by decide)⟩) ?_
    first | exact h1 (by omega) | exact h0 (by omega) | (exfalso; omega)
  · refine es_sg 5 (p := ((0 : Int) = 0) ∧ (((0 : Int) = 0) ∧ (0 ≤ i ∧ i < 60))) (pc' := 19) (ls' := [some (aR 20 (0 : Int)), some (aI i), some (aL x), none, some (aL y), none, some (aI t), none]) (st' := [aL y, aL (S 25 0 i)]) (S' := S) rfl ⟨rfl, ⟨rfl, (by omega)⟩⟩ ?_
    refine es_lif rfl rfl 34 rfl (rgL hg1 (t := 25) (i := (0 : Int)) (q := i) (by omega : 0 ≤ (0 : Int) ∧ (0 : Int) < 1) (by omega) rfl) (by assumption) (fun (g19 : ¬ (S 25 0 i) = y) => ?_) (fun (g19 : ¬ (¬ (S 25 0 i) = y)) => ?_)
    · refine es_sg 6 (p := (0 : Int) = 0) (pc' := 46) (ls' := [some (aR 20 (0 : Int)), some (aI i), some (aL x), none, some (aL y), none, some (aI t), some (aI (1 : Int))]) (st' := [aI i, aR 24 (0 : Int)]) (S' := S) rfl rfl ?_
      refine es_sg 2 (p := (((0 : Int) = 0) ∧ (0 ≤ i ∧ i < 60)) ∧ (r64 x)) (pc' := 48) (ls' := [some (aR 20 (0 : Int)), some (aI i), some (aL x), none, some (aL y), none, some (aI t), some (aI (1 : Int))]) (st' := []) (S' := su S 24 0 i x) rfl ⟨⟨rfl, (by omega)⟩, (by assumption)⟩ ?_
      refine es_rg (fun hg5 => ?_)
      refine es_sg 5 (p := ((0 : Int) = 0) ∧ ((((0 : Int) = 0) ∧ (0 ≤ i ∧ i < 60)) ∧ (r64 y))) (pc' := 56) (ls' := [some (aR 20 (0 : Int)), some (aI i), some (aL x), none, some (aL y), none, some (aI t), some (aI (1 : Int))]) (st' := []) (S' := su (su S 24 0 i x) 25 0 i y) rfl ⟨rfl, ⟨⟨rfl, (by omega)⟩, (by assumption)⟩⟩ ?_
      refine es_rg (fun hg6 => ?_)
      refine es_sg 5 (p := ((0 : Int) = 0) ∧ ((((0 : Int) = 0) ∧ (0 ≤ i ∧ i < 60)) ∧ (r32 t))) (pc' := 64) (ls' := [some (aR 20 (0 : Int)), some (aI i), some (aL x), none, some (aL y), none, some (aI t), some (aI (1 : Int))]) (st' := []) (S' := su (su (su S 24 0 i x) 25 0 i y) 26 0 i t) rfl ⟨rfl, ⟨⟨rfl, (by omega)⟩, (by assumption)⟩⟩ ?_
      refine es_rg (fun hg7 => ?_)
      refine es_s0 1 (pc' := 66) (ls' := [some (aR 20 (0 : Int)), some (aI i), some (aL x), none, some (aL y), none, some (aI t), some (aI (1 : Int))]) (st' := [aI (1 : Int)]) (S' := su (su (su S 24 0 i x) 25 0 i y) 26 0 i t) rfl ?_
      refine es_iret rfl rfl rfl (Or.inr ⟨rfl, (by decide)⟩) ?_
      first | exact h1 (by omega) | exact h0 (by omega) | (exfalso; omega)
    · refine es_sg 5 (p := ((0 : Int) = 0) ∧ (((0 : Int) = 0) ∧ (0 ≤ i ∧ i < 60))) (pc' := 31) (ls' := [some (aR 20 (0 : Int)), some (aI i), some (aL x), none, some (aL y), none, some (aI t), none]) (st' := [aI t, aI (S 26 0 i)]) (S' := S) rfl ⟨rfl, ⟨rfl, (by omega)⟩⟩ ?_
      refine es_icmp rfl 38 rfl (rgI hg1 (t := 26) (i := (0 : Int)) (q := i) (by omega : 0 ≤ (0 : Int) ∧ (0 : Int) < 1) (by omega) rfl) (by assumption) (fun (g31 : (S 26 0 i) = t) => ?_) (fun (g31 : ¬ ((S 26 0 i) = t)) => ?_)
      · refine es_sg 6 (p := (0 : Int) = 0) (pc' := 47) (ls' := [some (aR 20 (0 : Int)), some (aI i), some (aL x), none, some (aL y), none, some (aI t), some (aI (0 : Int))]) (st' := [aL x, aI i, aR 24 (0 : Int)]) (S' := S) rfl rfl ?_
        refine es_sg 1 (p := (((0 : Int) = 0) ∧ (0 ≤ i ∧ i < 60)) ∧ (r64 x)) (pc' := 48) (ls' := [some (aR 20 (0 : Int)), some (aI i), some (aL x), none, some (aL y), none, some (aI t), some (aI (0 : Int))]) (st' := []) (S' := su S 24 0 i x) rfl ⟨⟨rfl, (by omega)⟩, (by assumption)⟩ ?_
        refine es_rg (fun hg8 => ?_)
        refine es_sg 5 (p := ((0 : Int) = 0) ∧ ((((0 : Int) = 0) ∧ (0 ≤ i ∧ i < 60)) ∧ (r64 y))) (pc' := 56) (ls' := [some (aR 20 (0 : Int)), some (aI i), some (aL x), none, some (aL y), none, some (aI t), some (aI (0 : Int))]) (st' := []) (S' := su (su S 24 0 i x) 25 0 i y) rfl ⟨rfl, ⟨⟨rfl, (by omega)⟩, (by assumption)⟩⟩ ?_
        refine es_rg (fun hg9 => ?_)
        refine es_sg 5 (p := ((0 : Int) = 0) ∧ ((((0 : Int) = 0) ∧ (0 ≤ i ∧ i < 60)) ∧ (r32 t))) (pc' := 64) (ls' := [some (aR 20 (0 : Int)), some (aI i), some (aL x), none, some (aL y), none, some (aI t), some (aI (0 : Int))]) (st' := []) (S' := su (su (su S 24 0 i x) 25 0 i y) 26 0 i t) rfl ⟨rfl, ⟨⟨rfl, (by omega)⟩, (by assumption)⟩⟩ ?_
        refine es_rg (fun hg10 => ?_)
        refine es_s0 1 (pc' := 66) (ls' := [some (aR 20 (0 : Int)), some (aI i), some (aL x), none, some (aL y), none, some (aI t), some (aI (0 : Int))]) (st' := [aI (0 : Int)]) (S' := su (su (su S 24 0 i x) 25 0 i y) 26 0 i t) rfl ?_
        refine es_iret rfl rfl rfl (Or.inr ⟨rfl, (by decide)⟩) ?_
        first | exact h1 (by omega) | exact h0 (by omega) | (exfalso; omega)
      · refine es_sg 6 (p := (0 : Int) = 0) (pc' := 46) (ls' := [some (aR 20 (0 : Int)), some (aI i), some (aL x), none, some (aL y), none, some (aI t), some (aI (1 : Int))]) (st' := [aI i, aR 24 (0 : Int)]) (S' := S) rfl rfl ?_
        refine es_sg 2 (p := (((0 : Int) = 0) ∧ (0 ≤ i ∧ i < 60)) ∧ (r64 x)) (pc' := 48) (ls' := [some (aR 20 (0 : Int)), some (aI i), some (aL x), none, some (aL y), none, some (aI t), some (aI (1 : Int))]) (st' := []) (S' := su S 24 0 i x) rfl ⟨⟨rfl, (by omega)⟩, (by assumption)⟩ ?_
        refine es_rg (fun hg11 => ?_)
        refine es_sg 5 (p := ((0 : Int) = 0) ∧ ((((0 : Int) = 0) ∧ (0 ≤ i ∧ i < 60)) ∧ (r64 y))) (pc' := 56) (ls' := [some (aR 20 (0 : Int)), some (aI i), some (aL x), none, some (aL y), none, some (aI t), some (aI (1 : Int))]) (st' := []) (S' := su (su S 24 0 i x) 25 0 i y) rfl ⟨rfl, ⟨⟨rfl, (by omega)⟩, (by assumption)⟩⟩ ?_
        refine es_rg (fun hg12 => ?_)
        refine es_sg 5 (p := ((0 : Int) = 0) ∧ ((((0 : Int) = 0) ∧ (0 ≤ i ∧ i < 60)) ∧ (r32 t))) (pc' := 64) (ls' := [some (aR 20 (0 : Int)), some (aI i), some (aL x), none, some (aL y), none, some (aI t), some (aI (1 : Int))]) (st' := []) (S' := su (su (su S 24 0 i x) 25 0 i y) 26 0 i t) rfl ⟨rfl, ⟨⟨rfl, (by omega)⟩, (by assumption)⟩⟩ ?_
        refine es_rg (fun hg13 => ?_)
        refine es_s0 1 (pc' := 66) (ls' := [some (aR 20 (0 : Int)), some (aI i), some (aL x), none, some (aL y), none, some (aI t), some (aI (1 : Int))]) (st' := [aI (1 : Int)]) (S' := su (su (su S 24 0 i x) 25 0 i y) 26 0 i t) rfl ?_
        refine es_iret rfl rfl rfl (Or.inr ⟨rfl, (by decide)⟩) ?_
        first | exact h1 (by omega) | exact h0 (by omega) | (exfalso; omega)
theorem n28 {G : Gw} {S : Sg} {k : Nat} {Q : AQ} (hnp : 0 ≤ S 20 0 1 ∧ S 20 0 1 ≤ 60) {p x y t : Int} (hp : r32 p) (hx : r64 x) (hy : r64 y) (ht : r32 t) (t1 : ¬ (0 ≤ p ∧ p < S 20 0 1) → Q (.inl (some (aI 0))) (su S 20 0 0 1)) (t2 : (0 ≤ p ∧ p < S 20 0 1) ∧ ¬ (((-1000000 ≤ x ∧ x ≤ 1000000) ∧ (-1000000 ≤ y ∧ y ≤ 1000000)) ∧ (0 ≤ t ∧ t < 4)) → Q (.inl (some (aI 0))) (su S 20 0 0 2)) (h1 : ((0 ≤ p ∧ p < S 20 0 1) ∧ ((-1000000 ≤ x ∧ x ≤ 1000000) ∧ (-1000000 ≤ y ∧ y ≤ 1000000)) ∧ (0 ≤ t ∧ t < 4)) ∧ ¬ (S 24 0 p = x ∧ S 25 0 p = y ∧ S 26 0 p = t) → Q (.inl (some (aI 1))) (gMv (su S 20 0 0 0) p x y t)) (h0 : ((0 ≤ p ∧ p < S 20 0 1) ∧ ((-1000000 ≤ x ∧ x ≤ 1000000) ∧ (-1000000 ≤ y ∧ y ≤ 1000000)) ∧ (0 ≤ t ∧ t < 4)) ∧ (S 24 0 p = x ∧ S 25 0 p = y ∧ S 26 0 p = t) → Q (.inl (some (aI 0))) (gMv (su S 20 0 0 0) p x y t)) : Es G 28 0 (aEnt 8 [aR 20 (0 : Int), aI p, aL x, aL y, aI t]) [] S (k + 1) Q := by
  have f24 : ∀ v, su S 20 0 0 v 24 0 p = S 24 0 p := fun _ => rfl
  have f25 : ∀ v, su S 20 0 0 v 25 0 p = S 25 0 p := fun _ => rfl
  have f26 : ∀ v, su S 20 0 0 v 26 0 p = S 26 0 p := fun _ => rfl
  have z0 := f24 0
  have z1 := f25 0
  have z2 := f26 0
  refine es_rg (fun hg1 => ?_)
  refine es_s0 1 (pc' := 1) (ls' := [some (aR 20 (0 : Int)), some (aI p), some (aL x), none, some (aL y), none, some (aI t), none]) (st' := [aL x]) (S' := S) rfl ?_
  refine es_callS rfl rfl [aL x] [] rfl rfl (Nat.le_of_ble_eq_true rfl) (Nat.le_of_ble_eq_true rfl) (Nat.le_of_ble_eq_true rfl) ?_
  refine n25 (S := S) (v := x) (by assumption) (fun hc1 => ?_) (fun hc1 => ?_)
  · show Es G 28 4 [some (aR 20 (0 : Int)), some (aI p), some (aL x), none, some (aL y), none, some (aI t), none] [aI (1 : Int)] S _ _
    refine es_if rfl 30 rfl ⟨by decide, by decide⟩ (fun (g4 : (1 : Int) = (0 : Int)) => absurd g4 (by decide)) (fun (g4 : ¬ ((1 : Int) = (0 : Int))) => ?_)
    refine es_s0 1 (pc' := 9) (ls' := [some (aR 20 (0 : Int)), some (aI p), some (aL x), none, some (aL y), none, some (aI t), none]) (st' := [aL y]) (S' := S) rfl ?_
    refine es_callS rfl rfl [aL y] [] rfl rfl (Nat.le_of_ble_eq_true rfl) (Nat.le_of_ble_eq_true rfl) (Nat.le_of_ble_eq_true rfl) ?_
    refine n25 (S := S) (v := y) (by assumption) (fun hc9 => ?_) (fun hc9 => ?_)
    · show Es G 28 12 [some (aR 20 (0 : Int)), some (aI p), some (aL x), none, some (aL y), none, some (aI t), none] [aI (1 : Int)] S _ _
      refine es_if rfl 30 rfl ⟨by decide, by decide⟩ (fun (g12 : (1 : Int) = (0 : Int)) => absurd g12 (by decide)) (fun (g12 : ¬ ((1 : Int) = (0 : Int))) => ?_)
      refine es_s0 1 (pc' := 17) (ls' := [some (aR 20 (0 : Int)), some (aI p), some (aL x), none, some (aL y), none, some (aI t), none]) (st' := [aI t]) (S' := S) rfl ?_
      refine es_if rfl 30 rfl (by assumption) (fun (g17 : t < (0 : Int)) => ?_) (fun (g17 : ¬ (t < (0 : Int))) => ?_)
      · refine es_s0 5 (pc' := 36) (ls' := [some (aR 20 (0 : Int)), some (aI p), some (aL x), none, some (aL y), none, some (aI t), some (aI (0 : Int))]) (st' := [aI p, aR 20 (0 : Int), aR 20 (0 : Int)]) (S' := S) rfl ?_
        refine es_callV rfl rfl 20 (0 : Int) [aI p] [aR 20 (0 : Int)] rfl rfl rfl rfl (Nat.le_of_ble_eq_true rfl) (Nat.le_of_ble_eq_true rfl) (Nat.le_of_ble_eq_true rfl) ?_
        refine n26 (S := S) (n := p) (by assumption) (fun hc36 => ?_) (fun hc36 => ?_)
        · show Es G 28 39 [some (aR 20 (0 : Int)), some (aI p), some (aL x), none, some (aL y), none, some (aI t), some (aI (0 : Int))] [aI (1 : Int), aR 20 (0 : Int)] S _ _
          refine es_if rfl 46 rfl ⟨by decide, by decide⟩ (fun (g39 : ¬ (1 : Int) = (0 : Int)) => ?_) (fun (g39 : ¬ (¬ (1 : Int) = (0 : Int))) => absurd g39 (by decide))
          refine es_s0 1 (pc' := 48) (ls' := [some (aR 20 (0 : Int)), some (aI p), some (aL x), none, some (aL y), none, some (aI t), some (aI (0 : Int))]) (st' := [aI (0 : Int), aR 20 (0 : Int)]) (S' := S) rfl ?_
          refine es_if rfl 55 rfl ⟨by decide, by decide⟩ (fun (g48 : (0 : Int) = (0 : Int)) => ?_) (fun (g48 : ¬ ((0 : Int) = (0 : Int))) => absurd g48 (by decide))
          refine es_sg 2 (p := ((0 : Int) = 0) ∧ (r32 (2 : Int))) (pc' := 59) (ls' := [some (aR 20 (0 : Int)), some (aI p), some (aL x), none, some (aL y), none, some (aI t), some (aI (0 : Int))]) (st' := []) (S' := su S 20 0 0 2) rfl ⟨rfl, ⟨by decide, by decide⟩⟩ ?_
          refine es_rg (fun hg2 => ?_)
          refine es_sg 2 (p := (0 : Int) = 0) (pc' := 63) (ls' := [some (aR 20 (0 : Int)), some (aI p), some (aL x), none, some (aL y), none, some (aI t), some (aI (0 : Int))]) (st' := [aI (2 : Int)]) (S' := su S 20 0 0 2) rfl rfl ?_
          refine es_if rfl 83 rfl ⟨by omega, by omega⟩ (fun (g63 : ¬ (2 : Int) = (0 : Int)) => ?_) (fun (g63 : ¬ (¬ (2 : Int) = (0 : Int))) => absurd g63 (by decide))
          refine es_s0 1 (pc' := 84) (ls' := [some (aR 20 (0 : Int)), some (aI p), some (aL x), none, some (aL y), none, some (aI t), some (aI (0 : Int))]) (st' := [aI (0 : Int)]) (S' := su S 20 0 0 2) rfl ?_
          refine es_iret rfl rfl rfl (Or.inr ⟨rfl, (by decide)⟩) ?_
          first | exact t2 (by omega) | (exfalso; omega)
        · show Es G 28 39 [some (aR 20 (0 : Int)), some (aI p), some (aL x), none, some (aL y), none, some (aI t), some (aI (0 : Int))] [aI (0 : Int), aR 20 (0 : Int)] S _ _
          refine es_if rfl 46 rfl ⟨by decide, by decide⟩ (fun (g39 : ¬ (0 : Int) = (0 : Int)) => absurd g39 (by decide)) (fun (g39 : ¬ (¬ (0 : Int) = (0 : Int))) => ?_)
          refine es_sg 3 (p := ((0 : Int) = 0) ∧ (r32 (1 : Int))) (pc' := 59) (ls' := [some (aR 20 (0 : Int)), some (aI p), some (aL x), none, some (aL y), none, some (aI t), some (aI (0 : Int))]) (st' := []) (S' := su S 20 0 0 1) rfl ⟨rfl, ⟨by decide, by decide⟩⟩ ?_
          refine es_rg (fun hg3 => ?_)
          refine es_sg 2 (p := (0 : Int) = 0) (pc' := 63) (ls' := [some (aR 20 (0 : Int)), some (aI p), some (aL x), none, some (aL y), none, some (aI t), some (aI (0 : Int))]) (st' := [aI (1 : Int)]) (S' := su S 20 0 0 1) rfl rfl ?_
          refine es_if rfl 83 rfl ⟨by omega, by omega⟩ (fun (g63 : ¬ (1 : Int) = (0 : Int)) => ?_) (fun (g63 : ¬ (¬ (1 : Int) = (0 : Int))) => absurd g63 (by decide))
          refine es_s0 1 (pc' := 84) (ls' := [some (aR 20 (0 : Int)), some (aI p), some (aL x), none, some (aL y), none, some (aI t), some (aI (0 : Int))]) (st' := [aI (0 : Int)]) (S' := su S 20 0 0 1) rfl ?_
          refine es_iret rfl rfl rfl (Or.inr ⟨rfl, (by decide)⟩) ?_
          first | exact t1 (by omega) | (exfalso; omega)
      · refine es_s0 2 (pc' := 23) (ls' := [some (aR 20 (0 : Int)), some (aI p), some (aL x), none, some (aL y), none, some (aI t), none]) (st' := [aI (4 : Int), aI t]) (S' := S) rfl ?_
        refine es_icmp rfl 30 rfl (by assumption) ⟨by decide, by decide⟩ (fun (g23 : (4 : Int) ≤ t) => ?_) (fun (g23 : ¬ ((4 : Int) ≤ t)) => ?_)
        · refine es_s0 5 (pc' := 36) (ls' := [some (aR 20 (0 : Int)), some (aI p), some (aL x), none, some (aL y), none, some (aI t), some (aI (0 : Int))]) (st' := [aI p, aR 20 (0 : Int), aR 20 (0 : Int)]) (S' := S) rfl ?_
          refine es_callV rfl rfl 20 (0 : Int) [aI p] [aR 20 (0 : Int)] rfl rfl rfl rfl (Nat.le_of_ble_eq_true rfl) (Nat.le_of_ble_eq_true rfl) (Nat.le_of_ble_eq_true rfl) ?_
          refine n26 (S := S) (n := p) (by assumption) (fun hc36 => ?_) (fun hc36 => ?_)
          · show Es G 28 39 [some (aR 20 (0 : Int)), some (aI p), some (aL x), none, some (aL y), none, some (aI t), some (aI (0 : Int))] [aI (1 : Int), aR 20 (0 : Int)] S _ _
            refine es_if rfl 46 rfl ⟨by decide, by decide⟩ (fun (g39 : ¬ (1 : Int) = (0 : Int)) => ?_) (fun (g39 : ¬ (¬ (1 : Int) = (0 : Int))) => absurd g39 (by decide))
            refine es_s0 1 (pc' := 48) (ls' := [some (aR 20 (0 : Int)), some (aI p), some (aL x), none, some (aL y), none, some (aI t), some (aI (0 : Int))]) (st' := [aI (0 : Int), aR 20 (0 : Int)]) (S' := S) rfl ?_
            refine es_if rfl 55 rfl ⟨by decide, by decide⟩ (fun (g48 : (0 : Int) = (0 : Int)) => ?_) (fun (g48 : ¬ ((0 : Int) = (0 : Int))) => absurd g48 (by decide))
            refine es_sg 2 (p := ((0 : Int) = 0) ∧ (r32 (2 : Int))) (pc' := 59) (ls' := [some (aR 20 (0 : Int)), some (aI p), some (aL x), none, some (aL y), none, some (aI t), some (aI (0 : Int))]) (st' := []) (S' := su S 20 0 0 2) rfl ⟨rfl, ⟨by decide, by decide⟩⟩ ?_
            refine es_rg (fun hg4 => ?_)
            refine es_sg 2 (p := (0 : Int) = 0) (pc' := 63) (ls' := [some (aR 20 (0 : Int)), some (aI p), some (aL x), none, some (aL y), none, some (aI t), some (aI (0 : Int))]) (st' := [aI (2 : Int)]) (S' := su S 20 0 0 2) rfl rfl ?_
            refine es_if rfl 83 rfl ⟨by omega, by omega⟩ (fun (g63 : ¬ (2 : Int) = (0 : Int)) => ?_) (fun (g63 : ¬ (¬ (2 : Int) = (0 : Int))) => absurd g63 (by decide))
            refine es_s0 1 (pc' := 84) (ls' := [some (aR 20 (0 : Int)), some (aI p), some (aL x), none, some (aL y), none, some (aI t), some (aI (0 : Int))]) (st' := [aI (0 : Int)]) (S' := su S 20 0 0 2) rfl ?_
            refine es_iret rfl rfl rfl (Or.inr ⟨rfl, (by decide)⟩) ?_
            first | exact t2 (by omega) | (exfalso; omega)
          · show Es G 28 39 [some (aR 20 (0 : Int)), some (aI p), some (aL x), none, some (aL y), none, some (aI t), some (aI (0 : Int))] [aI (0 : Int), aR 20 (0 : Int)] S _ _
            refine es_if rfl 46 rfl ⟨by decide, by decide⟩ (fun (g39 : ¬ (0 : Int) = (0 : Int)) => absurd g39 (by decide)) (fun (g39 : ¬ (¬ (0 : Int) = (0 : Int))) => ?_)
            refine es_sg 3 (p := ((0 : Int) = 0) ∧ (r32 (1 : Int))) (pc' := 59) (ls' := [some (aR 20 (0 : Int)), some (aI p), some (aL x), none, some (aL y), none, some (aI t), some (aI (0 : Int))]) (st' := []) (S' := su S 20 0 0 1) rfl ⟨rfl, ⟨by decide, by decide⟩⟩ ?_
            refine es_rg (fun hg5 => ?_)
            refine es_sg 2 (p := (0 : Int) = 0) (pc' := 63) (ls' := [some (aR 20 (0 : Int)), some (aI p), some (aL x), none, some (aL y), none, some (aI t), some (aI (0 : Int))]) (st' := [aI (1 : Int)]) (S' := su S 20 0 0 1) rfl rfl ?_
            refine es_if rfl 83 rfl ⟨by omega, by omega⟩ (fun (g63 : ¬ (1 : Int) = (0 : Int)) => ?_) (fun (g63 : ¬ (¬ (1 : Int) = (0 : Int))) => absurd g63 (by decide))
            refine es_s0 1 (pc' := 84) (ls' := [some (aR 20 (0 : Int)), some (aI p), some (aL x), none, some (aL y), none, some (aI t), some (aI (0 : Int))]) (st' := [aI (0 : Int)]) (S' := su S 20 0 0 1) rfl ?_
            refine es_iret rfl rfl rfl (Or.inr ⟨rfl, (by decide)⟩) ?_
            first | exact t1 (by omega) | (exfalso; omega)
        · refine es_s0 6 (pc' := 36) (ls' := [some (aR 20 (0 : Int)), some (aI p), some (aL x), none, some (aL y), none, some (aI t), some (aI (1 : Int))]) (st' := [aI p, aR 20 (0 : Int), aR 20 (0 : Int)]) (S' := S) rfl ?_
          refine es_callV rfl rfl 20 (0 : Int) [aI p] [aR 20 (0 : Int)] rfl rfl rfl rfl (Nat.le_of_ble_eq_true rfl) (Nat.le_of_ble_eq_true rfl) (Nat.le_of_ble_eq_true rfl) ?_
          refine n26 (S := S) (n := p) (by assumption) (fun hc36 => ?_) (fun hc36 => ?_)
          · show Es G 28 39 [some (aR 20 (0 : Int)), some (aI p), some (aL x), none, some (aL y), none, some (aI t), some (aI (1 : Int))] [aI (1 : Int), aR 20 (0 : Int)] S _ _
            refine es_if rfl 46 rfl ⟨by decide, by decide⟩ (fun (g39 : ¬ (1 : Int) = (0 : Int)) => ?_) (fun (g39 : ¬ (¬ (1 : Int) = (0 : Int))) => absurd g39 (by decide))
            refine es_s0 1 (pc' := 48) (ls' := [some (aR 20 (0 : Int)), some (aI p), some (aL x), none, some (aL y), none, some (aI t), some (aI (1 : Int))]) (st' := [aI (1 : Int), aR 20 (0 : Int)]) (S' := S) rfl ?_
            refine es_if rfl 55 rfl ⟨by decide, by decide⟩ (fun (g48 : (1 : Int) = (0 : Int)) => absurd g48 (by decide)) (fun (g48 : ¬ ((1 : Int) = (0 : Int))) => ?_)
            refine es_sg 3 (p := ((0 : Int) = 0) ∧ (r32 (0 : Int))) (pc' := 59) (ls' := [some (aR 20 (0 : Int)), some (aI p), some (aL x), none, some (aL y), none, some (aI t), some (aI (1 : Int))]) (st' := []) (S' := su S 20 0 0 0) rfl ⟨rfl, ⟨by decide, by decide⟩⟩ ?_
            refine es_rg (fun hg6 => ?_)
            refine es_sg 2 (p := (0 : Int) = 0) (pc' := 63) (ls' := [some (aR 20 (0 : Int)), some (aI p), some (aL x), none, some (aL y), none, some (aI t), some (aI (1 : Int))]) (st' := [aI (0 : Int)]) (S' := su S 20 0 0 0) rfl rfl ?_
            refine es_if rfl 83 rfl ⟨by omega, by omega⟩ (fun (g63 : ¬ (0 : Int) = (0 : Int)) => absurd g63 (by decide)) (fun (g63 : ¬ (¬ (0 : Int) = (0 : Int))) => ?_)
            refine es_s0 5 (pc' := 73) (ls' := [some (aR 20 (0 : Int)), some (aI p), some (aL x), none, some (aL y), none, some (aI t), some (aI (1 : Int))]) (st' := [aI t, aL y, aL x, aI p, aR 20 (0 : Int)]) (S' := su S 20 0 0 0) rfl ?_
            refine es_callV rfl rfl 20 (0 : Int) [aI p, aL x, aL y, aI t] [] rfl rfl rfl rfl (Nat.le_of_ble_eq_true rfl) (Nat.le_of_ble_eq_true rfl) (Nat.le_of_ble_eq_true rfl) ?_
            refine n27 (S := su S 20 0 0 0) (i := p) (x := x) (y := y) (t := t) (by omega) (by assumption) (by assumption) (by assumption) (fun hc73 => ?_) (fun hc73 => ?_)
            · show Es G 28 76 [some (aR 20 (0 : Int)), some (aI p), some (aL x), none, some (aL y), none, some (aI t), some (aI (1 : Int))] [aI (1 : Int)] (su (su (su (su S 20 0 0 0) 24 0 p x) 25 0 p y) 26 0 p t) _ _
              refine es_rg (fun hg7 => ?_)
              refine es_if rfl 83 rfl ⟨by decide, by decide⟩ (fun (g76 : (1 : Int) = (0 : Int)) => absurd g76 (by decide)) (fun (g76 : ¬ ((1 : Int) = (0 : Int))) => ?_)
              refine es_s0 2 (pc' := 84) (ls' := [some (aR 20 (0 : Int)), some (aI p), some (aL x), none, some (aL y), none, some (aI t), some (aI (1 : Int))]) (st' := [aI (1 : Int)]) (S' := su (su (su (su S 20 0 0 0) 24 0 p x) 25 0 p y) 26 0 p t) rfl ?_
              refine es_iret rfl rfl rfl (Or.inr ⟨rfl, (by decide)⟩) ?_
              first | exact h1 (by omega) | (exfalso; omega)
            · show Es G 28 76 [some (aR 20 (0 : Int)), some (aI p), some (aL x), none, some (aL y), none, some (aI t), some (aI (1 : Int))] [aI (0 : Int)] (su (su (su (su S 20 0 0 0) 24 0 p x) 25 0 p y) 26 0 p t) _ _
              refine es_rg (fun hg8 => ?_)
              refine es_if rfl 83 rfl ⟨by decide, by decide⟩ (fun (g76 : (0 : Int) = (0 : Int)) => ?_) (fun (g76 : ¬ ((0 : Int) = (0 : Int))) => absurd g76 (by decide))
              refine es_s0 1 (pc' := 84) (ls' := [some (aR 20 (0 : Int)), some (aI p), some (aL x), none, some (aL y), none, some (aI t), some (aI (1 : Int))]) (st' := [aI (0 : Int)]) (S' := su (su (su (su S 20 0 0 0) 24 0 p x) 25 0 p y) 26 0 p t) rfl ?_
              refine es_iret rfl rfl rfl (Or.inr ⟨rfl, (by decide)⟩) ?_
              first | exact h0 (by omega) | (exfalso; omega)
          · show Es G 28 39 [some (aR 20 (0 : Int)), some (aI p), some (aL x), none, some (aL y), none, some (aI t), some (aI (1 : Int))] [aI (0 : Int), aR 20 (0 : Int)] S _ _
            refine es_if rfl 46 rfl ⟨by decide, by decide⟩ (fun (g39 : ¬ (0 : Int) = (0 : Int)) => absurd g39 (by decide)) (fun (g39 : ¬ (¬ (0 : Int) = (0 : Int))) => ?_)
            refine es_sg 3 (p := ((0 : Int) = 0) ∧ (r32 (1 : Int))) (pc' := 59) (ls' := [some (aR 20 (0 : Int)), some (aI p), some (aL x), none, some (aL y), none, some (aI t), some (aI (1 : Int))]) (st' := []) (S' := su S 20 0 0 1) rfl ⟨rfl, ⟨by decide, by decide⟩⟩ ?_
            refine es_rg (fun hg9 => ?_)
            refine es_sg 2 (p := (0 : Int) = 0) (pc' := 63) (ls' := [some (aR 20 (0 : Int)), some (aI p), some (aL x), none, some (aL y), none, some (aI t), some (aI (1 : Int))]) (st' := [aI (1 : Int)]) (S' := su S 20 0 0 1) rfl rfl ?_
            refine es_if rfl 83 rfl ⟨by omega, by omega⟩ (fun (g63 : ¬ (1 : Int) = (0 : Int)) => ?_) (fun (g63 : ¬ (¬ (1 : Int) = (0 : Int))) => absurd g63 (by decide))
            refine es_s0 1 (pc' := 84) (ls' := [some (aR 20 (0 : Int)), some (aI p), some (aL x), none, some (aL y), none, some (aI t), some (aI (1 : Int))]) (st' := [aI (0 : Int)]) (S' := su S 20 0 0 1) rfl ?_
            refine es_iret rfl rfl rfl (Or.inr ⟨rfl, (by decide)⟩) ?_
            first | exact t1 (by omega) | (exfalso; omega)
    · show Es G 28 12 [some (aR 20 (0 : Int)), some (aI p), some (aL x), none, some (aL y), none, some (aI t), none] [aI (0 : Int)] S _ _
      refine es_if rfl 30 rfl ⟨by decide, by decide⟩ (fun (g12 : (0 : Int) = (0 : Int)) => ?_) (fun (g12 : ¬ ((0 : Int) = (0 : Int))) => absurd g12 (by decide))
      refine es_s0 5 (pc' := 36) (ls' := [some (aR 20 (0 : Int)), some (aI p), some (aL x), none, some (aL y), none, some (aI t), some (aI (0 : Int))]) (st' := [aI p, aR 20 (0 : Int), aR 20 (0 : Int)]) (S' := S) rfl ?_
      refine es_callV rfl rfl 20 (0 : Int) [aI p] [aR 20 (0 : Int)] rfl rfl rfl rfl (Nat.le_of_ble_eq_true rfl) (Nat.le_of_ble_eq_true rfl) (Nat.le_of_ble_eq_true rfl) ?_
      refine n26 (S := S) (n := p) (by assumption) (fun hc36 => ?_) (fun hc36 => ?_)
      · show Es G 28 39 [some (aR 20 (0 : Int)), some (aI p), some (aL x), none, some (aL y), none, some (aI t), some (aI (0 : Int))] [aI (1 : Int), aR 20 (0 : Int)] S _ _
        refine es_if rfl 46 rfl ⟨by decide, by decide⟩ (fun (g39 : ¬ (1 : Int) = (0 : Int)) => ?_) (fun (g39 : ¬ (¬ (1 : Int) = (0 : Int))) => absurd g39 (by decide))
        refine es_s0 1 (pc' := 48) (ls' := [some (aR 20 (0 : Int)), some (aI p), some (aL x), none, some (aL y), none, some (aI t), some (aI (0 : Int))]) (st' := [aI (0 : Int), aR 20 (0 : Int)]) (S' := S) rfl ?_
        refine es_if rfl 55 rfl ⟨by decide, by decide⟩ (fun (g48 : (0 : Int) = (0 : Int)) => ?_) (fun (g48 : ¬ ((0 : Int) = (0 : Int))) => absurd g48 (by decide))
        refine es_sg 2 (p := ((0 : Int) = 0) ∧ (r32 (2 : Int))) (pc' := 59) (ls' := [some (aR 20 (0 : Int)), some (aI p), some (aL x), none, some (aL y), none, some (aI t), some (aI (0 : Int))]) (st' := []) (S' := su S 20 0 0 2) rfl ⟨rfl, ⟨by decide, by decide⟩⟩ ?_
        refine es_rg (fun hg10 => ?_)
        refine es_sg 2 (p := (0 : Int) = 0) (pc' := 63) (ls' := [some (aR 20 (0 : Int)), some (aI p), some (aL x), none, some (aL y), none, some (aI t), some (aI (0 : Int))]) (st' := [aI (2 : Int)]) (S' := su S 20 0 0 2) rfl rfl ?_
        refine es_if rfl 83 rfl ⟨by omega, by omega⟩ (fun (g63 : ¬ (2 : Int) = (0 : Int)) => ?_) (fun (g63 : ¬ (¬ (2 : Int) = (0 : Int))) => absurd g63 (by decide))
        refine es_s0 1 (pc' := 84) (ls' := [some (aR 20 (0 : Int)), some (aI p), some (aL x), none, some (aL y), none, some (aI t), some (aI (0 : Int))]) (st' := [aI (0 : Int)]) (S' := su S 20 0 0 2) rfl ?_
        refine es_iret rfl rfl rfl (Or.inr ⟨rfl, (by decide)⟩) ?_
        first | exact t2 (by omega) | (exfalso; omega)
      · show Es G 28 39 [some (aR 20 (0 : Int)), some (aI p), some (aL x), none, some (aL y), none, some (aI t), some (aI (0 : Int))] [aI (0 : Int), aR 20 (0 : Int)] S _ _
        refine es_if rfl 46 rfl ⟨by decide, by decide⟩ (fun (g39 : ¬ (0 : Int) = (0 : Int)) => absurd g39 (by decide)) (fun (g39 : ¬ (¬ (0 : Int) = (0 : Int))) => ?_)
        refine es_sg 3 (p := ((0 : Int) = 0) ∧ (r32 (1 : Int))) (pc' := 59) (ls' := [some (aR 20 (0 : Int)), some (aI p), some (aL x), none, some (aL y), none, some (aI t), some (aI (0 : Int))]) (st' := []) (S' := su S 20 0 0 1) rfl ⟨rfl, ⟨by decide, by decide⟩⟩ ?_
        refine es_rg (fun hg11 => ?_)
        refine es_sg 2 (p := (0 : Int) = 0) (pc' := 63) (ls' := [some (aR 20 (0 : Int)), some (aI p), some (aL x), none, some (aL y), none, some (aI t), some (aI (0 : Int))]) (st' := [aI (1 : Int)]) (S' := su S 20 0 0 1) rfl rfl ?_
        refine es_if rfl 83 rfl ⟨by omega, by omega⟩ (fun (g63 : ¬ (1 : Int) = (0 : Int)) => ?_) (fun (g63 : ¬ (¬ (1 : Int) = (0 : Int))) => absurd g63 (by decide))
        refine es_s0 1 (pc' := 84) (ls' := [some (aR 20 (0 : Int)), some (aI p), some (aL x), none, some (aL y), none, some (aI t), some (aI (0 : Int))]) (st' := [aI (0 : Int)]) (S' := su S 20 0 0 1) rfl ?_
        refine es_iret rfl rfl rfl (Or.inr ⟨rfl, (by decide)⟩) ?_
        first | exact t1 (by omega) | (exfalso; omega)
  · show Es G 28 4 [some (aR 20 (0 : Int)), some (aI p), some (aL x), none, some (aL y), none, some (aI t), none] [aI (0 : Int)] S _ _
    refine es_if rfl 30 rfl ⟨by decide, by decide⟩ (fun (g4 : (0 : Int) = (0 : Int)) => ?_) (fun (g4 : ¬ ((0 : Int) = (0 : Int))) => absurd g4 (by decide))
    refine es_s0 5 (pc' := 36) (ls' := [some (aR 20 (0 : Int)), some (aI p), some (aL x), none, some (aL y), none, some (aI t), some (aI (0 : Int))]) (st' := [aI p, aR 20 (0 : Int), aR 20 (0 : Int)]) (S' := S) rfl ?_
    refine es_callV rfl rfl 20 (0 : Int) [aI p] [aR 20 (0 : Int)] rfl rfl rfl rfl (Nat.le_of_ble_eq_true rfl) (Nat.le_of_ble_eq_true rfl) (Nat.le_of_ble_eq_true rfl) ?_
    refine n26 (S := S) (n := p) (by assumption) (fun hc36 => ?_) (fun hc36 => ?_)
    · show Es G 28 39 [some (aR 20 (0 : Int)), some (aI p), some (aL x), none, some (aL y), none, some (aI t), some (aI (0 : Int))] [aI (1 : Int), aR 20 (0 : Int)] S _ _
      refine es_if rfl 46 rfl ⟨by decide, by decide⟩ (fun (g39 : ¬ (1 : Int) = (0 : Int)) => ?_) (fun (g39 : ¬ (¬ (1 : Int) = (0 : Int))) => absurd g39 (by decide))
      refine es_s0 1 (pc' := 48) (ls' := [some (aR 20 (0 : Int)), some (aI p), some (aL x), none, some (aL y), none, some (aI t), some (aI (0 : Int))]) (st' := [aI (0 : Int), aR 20 (0 : Int)]) (S' := S) rfl ?_
      refine es_if rfl 55 rfl ⟨by decide, by decide⟩ (fun (g48 : (0 : Int) = (0 : Int)) => ?_) (fun (g48 : ¬ ((0 : Int) = (0 : Int))) => absurd g48 (by decide))
      refine es_sg 2 (p := ((0 : Int) = 0) ∧ (r32 (2 : Int))) (pc' := 59) (ls' := [some (aR 20 (0 : Int)), some (aI p), some (aL x), none, some (aL y), none, some (aI t), some (aI (0 : Int))]) (st' := []) (S' := su S 20 0 0 2) rfl ⟨rfl, ⟨by decide, by decide⟩⟩ ?_
      refine es_rg (fun hg12 => ?_)
      refine es_sg 2 (p := (0 : Int) = 0) (pc' := 63) (ls' := [some (aR 20 (0 : Int)), some (aI p), some (aL x), none, some (aL y), none, some (aI t), some (aI (0 : Int))]) (st' := [aI (2 : Int)]) (S' := su S 20 0 0 2) rfl rfl ?_
      refine es_if rfl 83 rfl ⟨by omega, by omega⟩ (fun (g63 : ¬ (2 : Int) = (0 : Int)) => ?_) (fun (g63 : ¬ (¬ (2 : Int) = (0 : Int))) => absurd g63 (by decide))
      refine es_s0 1 (pc' := 84) (ls' := [some (aR 20 (0 : Int)), some (aI p), some (aL x), none, some (aL y), none, some (aI t), some (aI (0 : Int))]) (st' := [aI (0 : Int)]) (S' := su S 20 0 0 2) rfl ?_
      refine es_iret rfl rfl rfl (Or.inr ⟨rfl, (by decide)⟩) ?_
      first | exact t2 (by omega) | (exfalso; omega)
    · show Es G 28 39 [some (aR 20 (0 : Int)), some (aI p), some (aL x), none, some (aL y), none, some (aI t), some (aI (0 : Int))] [aI (0 : Int), aR 20 (0 : Int)] S _ _
      refine es_if rfl 46 rfl ⟨by decide, by decide⟩ (fun (g39 : ¬ (0 : Int) = (0 : Int)) => absurd g39 (by decide)) (fun (g39 : ¬ (¬ (0 : Int) = (0 : Int))) => ?_)
      refine es_sg 3 (p := ((0 : Int) = 0) ∧ (r32 (1 : Int))) (pc' := 59) (ls' := [some (aR 20 (0 : Int)), some (aI p), some (aL x), none, some (aL y), none, some (aI t), some (aI (0 : Int))]) (st' := []) (S' := su S 20 0 0 1) rfl ⟨rfl, ⟨by decide, by decide⟩⟩ ?_
      refine es_rg (fun hg13 => ?_)
      refine es_sg 2 (p := (0 : Int) = 0) (pc' := 63) (ls' := [some (aR 20 (0 : Int)), some (aI p), some (aL x), none, some (aL y), none, some (aI t), some (aI (0 : Int))]) (st' := [aI (1 : Int)]) (S' := su S 20 0 0 1) rfl rfl ?_
      refine es_if rfl 83 rfl ⟨by omega, by omega⟩ (fun (g63 : ¬ (1 : Int) = (0 : Int)) => ?_) (fun (g63 : ¬ (¬ (1 : Int) = (0 : Int))) => absurd g63 (by decide))
      refine es_s0 1 (pc' := 84) (ls' := [some (aR 20 (0 : Int)), some (aI p), some (aL x), none, some (aL y), none, some (aI t), some (aI (0 : Int))]) (st' := [aI (0 : Int)]) (S' := su S 20 0 0 1) rfl ?_
      refine es_iret rfl rfl rfl (Or.inr ⟨rfl, (by decide)⟩) ?_
      first | exact t1 (by omega) | (exfalso; omega)
/-- a channel more -/
def gCh (S : Sg) (m dx dy t : Int) : Sg := su (su (su (su (su (su S 31 0 (S 20 0 10) m) 32 0 (S 20 0 10) dx) 33 0 (S 20 0 10) dy) 34 0 (S 20 0 10) t) 35 0 (S 20 0 10) 0) 20 0 10 (S 20 0 10 + 1)
theorem n31 {G : Gw} {S : Sg} {k : Nat} {Q : AQ} (hnc : 0 ≤ S 20 0 10 ∧ S 20 0 10 < 20) {m dx dy t : Int} (hm : r32 m) (hx : r64 dx) (hy : r64 dy) (ht : r32 t) (h : Q (.inl (some (aI (S 20 0 10)))) (gCh S m dx dy t)) : Es G 31 0 (aEnt 7 [aR 20 (0 : Int), aI m, aL dx, aL dy, aI t]) [] S (k + 0) Q := by
  refine es_rg (fun hg1 => ?_)
  refine es_sg 6 (p := ((0 : Int) = 0) ∧ (((0 : Int) = 0) ∧ ((((0 : Int) = 0) ∧ (0 ≤ (S 20 0 10) ∧ (S 20 0 10) < 20)) ∧ (r32 m)))) (pc' := 10) (ls' := [some (aR 20 (0 : Int)), some (aI m), some (aL dx), none, some (aL dy), none, some (aI t)]) (st' := []) (S' := su S 31 0 (S 20 0 10) m) rfl ⟨rfl, rfl, ⟨⟨rfl, (by omega)⟩, (by assumption)⟩⟩ ?_
  refine es_rg (fun hg2 => ?_)
  refine es_sg 6 (p := ((0 : Int) = 0) ∧ (((0 : Int) = 0) ∧ ((((0 : Int) = 0) ∧ (0 ≤ (S 20 0 10) ∧ (S 20 0 10) < 20)) ∧ (r64 dx)))) (pc' := 20) (ls' := [some (aR 20 (0 : Int)), some (aI m), some (aL dx), none, some (aL dy), none, some (aI t)]) (st' := []) (S' := su (su S 31 0 (S 20 0 10) m) 32 0 (S 20 0 10) dx) rfl ⟨rfl, rfl, ⟨⟨rfl, (by omega)⟩, (by assumption)⟩⟩ ?_
  refine es_rg (fun hg3 => ?_)
  refine es_sg 6 (p := ((0 : Int) = 0) ∧ (((0 : Int) = 0) ∧ ((((0 : Int) = 0) ∧ (0 ≤ (S 20 0 10) ∧ (S 20 0 10) < 20)) ∧ (r64 dy)))) (pc' := 31) (ls' := [some (aR 20 (0 : Int)), some (aI m), some (aL dx), none, some (aL dy), none, some (aI t)]) (st' := []) (S' := su (su (su S 31 0 (S 20 0 10) m) 32 0 (S 20 0 10) dx) 33 0 (S 20 0 10) dy) rfl ⟨rfl, rfl, ⟨⟨rfl, (by omega)⟩, (by assumption)⟩⟩ ?_
  refine es_rg (fun hg4 => ?_)
  refine es_sg 6 (p := ((0 : Int) = 0) ∧ (((0 : Int) = 0) ∧ ((((0 : Int) = 0) ∧ (0 ≤ (S 20 0 10) ∧ (S 20 0 10) < 20)) ∧ (r32 t)))) (pc' := 42) (ls' := [some (aR 20 (0 : Int)), some (aI m), some (aL dx), none, some (aL dy), none, some (aI t)]) (st' := []) (S' := su (su (su (su S 31 0 (S 20 0 10) m) 32 0 (S 20 0 10) dx) 33 0 (S 20 0 10) dy) 34 0 (S 20 0 10) t) rfl ⟨rfl, rfl, ⟨⟨rfl, (by omega)⟩, (by assumption)⟩⟩ ?_
  refine es_rg (fun hg5 => ?_)
  refine es_sg 6 (p := ((0 : Int) = 0) ∧ (((0 : Int) = 0) ∧ ((((0 : Int) = 0) ∧ (0 ≤ (S 20 0 10) ∧ (S 20 0 10) < 20)) ∧ ((0 : Int) = 0 ∨ (0 : Int) = 1)))) (pc' := 52) (ls' := [some (aR 20 (0 : Int)), some (aI m), some (aL dx), none, some (aL dy), none, some (aI t)]) (st' := []) (S' := su (su (su (su (su S 31 0 (S 20 0 10) m) 32 0 (S 20 0 10) dx) 33 0 (S 20 0 10) dy) 34 0 (S 20 0 10) t) 35 0 (S 20 0 10) 0) rfl ⟨rfl, rfl, ⟨⟨rfl, (by omega)⟩, (by decide)⟩⟩ ?_
  refine es_rg (fun hg6 => ?_)
  refine es_sg 6 (p := ((0 : Int) = 0) ∧ (((0 : Int) = 0) ∧ (r32 ((S 20 0 10) + 1)))) (pc' := 62) (ls' := [some (aR 20 (0 : Int)), some (aI m), some (aL dx), none, some (aL dy), none, some (aI t)]) (st' := []) (S' := su (su (su (su (su (su S 31 0 (S 20 0 10) m) 32 0 (S 20 0 10) dx) 33 0 (S 20 0 10) dy) 34 0 (S 20 0 10) t) 35 0 (S 20 0 10) 0) 20 0 10 ((S 20 0 10) + 1)) rfl ⟨rfl, ⟨rfl, ⟨by omega, by omega⟩⟩⟩ ?_
  refine es_rg (fun hg7 => ?_)
  refine es_sg 4 (p := (0 : Int) = 0) (pc' := 68) (ls' := [some (aR 20 (0 : Int)), some (aI m), some (aL dx), none, some (aL dy), none, some (aI t)]) (st' := [aI (((S 20 0 10) + 1) - 1)]) (S' := su (su (su (su (su (su S 31 0 (S 20 0 10) m) 32 0 (S 20 0 10) dx) 33 0 (S 20 0 10) dy) 34 0 (S 20 0 10) t) 35 0 (S 20 0 10) 0) 20 0 10 ((S 20 0 10) + 1)) rfl rfl ?_
  refine es_iret rfl rfl rfl (Or.inl rfl) ?_
  rw [show (S 20 0 10 + 1 - 1 : Int) = S 20 0 10 from by omega]; exact h
theorem n32 {G : Gw} {S : Sg} {k : Nat} {Q : AQ} (hnc : 0 ≤ S 20 0 10 ∧ S 20 0 10 ≤ 20) (h1 : S 20 0 10 = 20 → Q (.inl (some (aI (-1)))) (su S 20 0 0 0)) (h0 : S 20 0 10 < 20 → Q (.inl (some (aI (S 20 0 10)))) (gCh (su S 20 0 0 0) (-1) 0 0 0)) : Es G 32 0 (aEnt 1 [aR 20 (0 : Int)]) [] S (k + 1) Q := by
  refine es_rg (fun hg1 => ?_)
  refine es_sg 3 (p := ((0 : Int) = 0) ∧ (r32 (0 : Int))) (pc' := 5) (ls' := [some (aR 20 (0 : Int))]) (st' := []) (S' := su S 20 0 0 0) rfl ⟨rfl, ⟨by decide, by decide⟩⟩ ?_
  refine es_rg (fun hg2 => ?_)
  refine es_sg 3 (p := (0 : Int) = 0) (pc' := 11) (ls' := [some (aR 20 (0 : Int))]) (st' := [aI (20 : Int), aI (S 20 0 10)]) (S' := su S 20 0 0 0) rfl rfl ?_
  refine es_icmp rfl 18 rfl (rgI hg1 (t := 20) (i := (0 : Int)) (q := (10 : Int)) (by omega : 0 ≤ (0 : Int) ∧ (0 : Int) < 1) (by omega) rfl) ⟨by decide, by decide⟩ (fun (g11 : ¬ (S 20 0 10) = (20 : Int)) => ?_) (fun (g11 : ¬ (¬ (S 20 0 10) = (20 : Int))) => ?_)
  · refine es_s0 5 (pc' := 23) (ls' := [some (aR 20 (0 : Int))]) (st' := [aI (0 : Int), aL (0 : Int), aL (0 : Int), aI (-1 : Int), aR 20 (0 : Int)]) (S' := su S 20 0 0 0) rfl ?_
    refine es_callV rfl rfl 20 (0 : Int) [aI (-1 : Int), aL (0 : Int), aL (0 : Int), aI (0 : Int)] [] rfl rfl rfl rfl (Nat.le_of_ble_eq_true rfl) (Nat.le_of_ble_eq_true rfl) (Nat.le_of_ble_eq_true rfl) ?_
    refine n31 (S := su S 20 0 0 0) (m := (-1 : Int)) (dx := (0 : Int)) (dy := (0 : Int)) (t := (0 : Int)) (show 0 ≤ S 20 0 10 ∧ S 20 0 10 < 20 from by omega) ⟨by decide, by decide⟩ ⟨by decide, by decide⟩ ⟨by decide, by decide⟩ ⟨by decide, by decide⟩ ?_
    show Es G 32 26 [some (aR 20 (0 : Int))] [aI (S 20 0 10)] (su (su (su (su (su (su (su S 20 0 0 0) 31 0 (S 20 0 10) (-1)) 32 0 (S 20 0 10) 0) 33 0 (S 20 0 10) 0) 34 0 (S 20 0 10) 0) 35 0 (S 20 0 10) 0) 20 0 10 ((S 20 0 10) + 1)) _ _
    refine es_rg (fun hg3 => ?_)
    refine es_iret rfl rfl rfl (Or.inl rfl) ?_
    first | exact h0 (by omega) | (exfalso; omega)
  · refine es_s0 2 (pc' := 26) (ls' := [some (aR 20 (0 : Int))]) (st' := [aI (-1 : Int)]) (S' := su S 20 0 0 0) rfl ?_
    refine es_iret rfl rfl rfl (Or.inl rfl) ?_
    first | exact h1 (by omega) | (exfalso; omega)
theorem n66 {G : Gw} {S : Sg} {k : Nat} {Q : AQ} {p : Int} (hp : 0 ≤ p ∧ p < 60) (hch : S 27 0 p = -1 ∨ (0 ≤ S 27 0 p ∧ S 27 0 p < 20)) (h1 : ¬ S 27 0 p = -1 ∧ ¬ S 31 0 (S 27 0 p) = -1 → Q (.inl (some (aI 1))) S) (h0 : ¬ (¬ S 27 0 p = -1 ∧ ¬ S 31 0 (S 27 0 p) = -1) → Q (.inl (some (aI 0))) S) : Es G 66 0 (aEnt 2 [aR 20 (0 : Int), aI p]) [] S (k + 0) Q := by
  refine es_rg (fun hg1 => ?_)
  refine es_sg 5 (p := ((0 : Int) = 0) ∧ (((0 : Int) = 0) ∧ (0 ≤ p ∧ p < 60))) (pc' := 7) (ls' := [some (aR 20 (0 : Int)), some (aI p)]) (st' := [aI (-1 : Int), aI (S 27 0 p)]) (S' := S) rfl ⟨rfl, ⟨rfl, (by omega)⟩⟩ ?_
  refine es_icmp rfl 29 rfl (rgI hg1 (t := 27) (i := (0 : Int)) (q := p) (by omega : 0 ≤ (0 : Int) ∧ (0 : Int) < 1) (by omega) rfl) ⟨by decide, by decide⟩ (fun (g7 : (S 27 0 p) = (-1 : Int)) => ?_) (fun (g7 : ¬ ((S 27 0 p) = (-1 : Int))) => ?_)
  · refine es_s0 1 (pc' := 30) (ls' := [some (aR 20 (0 : Int)), some (aI p)]) (st' := [aI (0 : Int)]) (S' := S) rfl ?_
    refine es_iret rfl rfl rfl (Or.inr ⟨rfl, (by decide)⟩) ?_
    first | exact h1 (by omega) | exact h0 (by omega) | (exfalso; omega)
  · refine es_sg 6 (p := ((0 : Int) = 0) ∧ (((0 : Int) = 0) ∧ (((0 : Int) = 0) ∧ (0 ≤ p ∧ p < 60)))) (pc' := 20) (ls' := [some (aR 20 (0 : Int)), some (aI p)]) (st' := [aI (S 27 0 p), aR 31 (0 : Int)]) (S' := S) rfl ⟨rfl, rfl, ⟨rfl, (by omega)⟩⟩ ?_
    refine es_sg 2 (p := ((0 : Int) = 0) ∧ (0 ≤ (S 27 0 p) ∧ (S 27 0 p) < 20)) (pc' := 22) (ls' := [some (aR 20 (0 : Int)), some (aI p)]) (st' := [aI (-1 : Int), aI (S 31 0 (S 27 0 p))]) (S' := S) rfl ⟨rfl, (by omega)⟩ ?_
    refine es_icmp rfl 29 rfl (rgI hg1 (t := 31) (i := (0 : Int)) (q := (S 27 0 p)) (by omega : 0 ≤ (0 : Int) ∧ (0 : Int) < 1) (by omega) rfl) ⟨by decide, by decide⟩ (fun (g22 : (S 31 0 (S 27 0 p)) = (-1 : Int)) => ?_) (fun (g22 : ¬ ((S 31 0 (S 27 0 p)) = (-1 : Int))) => ?_)
    · refine es_s0 1 (pc' := 30) (ls' := [some (aR 20 (0 : Int)), some (aI p)]) (st' := [aI (0 : Int)]) (S' := S) rfl ?_
      refine es_iret rfl rfl rfl (Or.inr ⟨rfl, (by decide)⟩) ?_
      first | exact h1 (by omega) | exact h0 (by omega) | (exfalso; omega)
    · refine es_s0 2 (pc' := 30) (ls' := [some (aR 20 (0 : Int)), some (aI p)]) (st' := [aI (1 : Int)]) (S' := S) rfl ?_
      refine es_iret rfl rfl rfl (Or.inr ⟨rfl, (by decide)⟩) ?_
      first | exact h1 (by omega) | exact h0 (by omega) | (exfalso; omega)
theorem n67 {G : Gw} {S : Sg} {k : Nat} {Q : AQ} (hnp : 0 ≤ S 20 0 1 ∧ S 20 0 1 ≤ 60) {p x y : Int} (hp : r32 p) (hx : r64 x) (hy : r64 y) (hch : 0 ≤ p ∧ p < S 20 0 1 → S 27 0 p = -1 ∨ (0 ≤ S 27 0 p ∧ S 27 0 p < 20)) (t1 : ¬ (0 ≤ p ∧ p < S 20 0 1) → Q (.inl (some (aI 0))) (su S 20 0 0 1)) (t2 : (0 ≤ p ∧ p < S 20 0 1) ∧ ¬ ((-1000000 ≤ x ∧ x ≤ 1000000) ∧ (-1000000 ≤ y ∧ y ≤ 1000000)) → Q (.inl (some (aI 0))) (su S 20 0 0 2)) (h1 : ((0 ≤ p ∧ p < S 20 0 1) ∧ ((-1000000 ≤ x ∧ x ≤ 1000000) ∧ (-1000000 ≤ y ∧ y ≤ 1000000)) ∧ (¬ S 27 0 p = -1 ∧ ¬ S 31 0 (S 27 0 p) = -1)) ∧ ¬ (S 24 0 p = x ∧ S 25 0 p = y) → Q (.inl (some (aI 1))) (gMv (su (su S 20 0 0 0) 29 0 p 1) p x y (S 26 0 p))) (h0 : ((0 ≤ p ∧ p < S 20 0 1) ∧ ((-1000000 ≤ x ∧ x ≤ 1000000) ∧ (-1000000 ≤ y ∧ y ≤ 1000000)) ∧ (¬ S 27 0 p = -1 ∧ ¬ S 31 0 (S 27 0 p) = -1)) ∧ (S 24 0 p = x ∧ S 25 0 p = y) → Q (.inl (some (aI 0))) (gMv (su (su S 20 0 0 0) 29 0 p 1) p x y (S 26 0 p))) (h3 : ((0 ≤ p ∧ p < S 20 0 1) ∧ ((-1000000 ≤ x ∧ x ≤ 1000000) ∧ (-1000000 ≤ y ∧ y ≤ 1000000)) ∧ ¬ (¬ S 27 0 p = -1 ∧ ¬ S 31 0 (S 27 0 p) = -1)) ∧ ¬ (S 24 0 p = x ∧ S 25 0 p = y) → Q (.inl (some (aI 1))) (gMv (su S 20 0 0 0) p x y (S 26 0 p))) (h2 : ((0 ≤ p ∧ p < S 20 0 1) ∧ ((-1000000 ≤ x ∧ x ≤ 1000000) ∧ (-1000000 ≤ y ∧ y ≤ 1000000)) ∧ ¬ (¬ S 27 0 p = -1 ∧ ¬ S 31 0 (S 27 0 p) = -1)) ∧ (S 24 0 p = x ∧ S 25 0 p = y) → Q (.inl (some (aI 0))) (gMv (su S 20 0 0 0) p x y (S 26 0 p))) : Es G 67 0 (aEnt 6 [aR 20 (0 : Int), aI p, aL x, aL y]) [] S (k + 1) Q := by
  have z0 : su S 20 0 0 0 24 0 p = S 24 0 p := rfl
  have z1 : su S 20 0 0 0 25 0 p = S 25 0 p := rfl
  have z2 : su S 20 0 0 0 26 0 p = S 26 0 p := rfl
  have z3 : su (su S 20 0 0 0) 29 0 p 1 24 0 p = S 24 0 p := rfl
  have z4 : su (su S 20 0 0 0) 29 0 p 1 25 0 p = S 25 0 p := rfl
  have z5 : su (su S 20 0 0 0) 29 0 p 1 26 0 p = S 26 0 p := rfl
  have z6 : su S 20 0 0 0 27 0 p = S 27 0 p := rfl
  have z7 : su S 20 0 0 0 31 0 (S 27 0 p) = S 31 0 (S 27 0 p) := rfl
  have z8 : su S 20 0 0 0 31 0 (su S 20 0 0 0 27 0 p) = S 31 0 (S 27 0 p) := rfl
  refine es_rg (fun hg1 => ?_)
  refine es_s0 3 (pc' := 3) (ls' := [some (aR 20 (0 : Int)), some (aI p), some (aL x), none, some (aL y), none]) (st' := [aI p, aR 20 (0 : Int), aR 20 (0 : Int)]) (S' := S) rfl ?_
  refine es_callV rfl rfl 20 (0 : Int) [aI p] [aR 20 (0 : Int)] rfl rfl rfl rfl (Nat.le_of_ble_eq_true rfl) (Nat.le_of_ble_eq_true rfl) (Nat.le_of_ble_eq_true rfl) ?_
  refine n26 (S := S) (n := p) (by assumption) (fun hc3 => ?_) (fun hc3 => ?_)
  · show Es G 67 6 [some (aR 20 (0 : Int)), some (aI p), some (aL x), none, some (aL y), none] [aI (1 : Int), aR 20 (0 : Int)] S _ _
    refine es_if rfl 13 rfl ⟨by decide, by decide⟩ (fun (g6 : ¬ (1 : Int) = (0 : Int)) => ?_) (fun (g6 : ¬ (¬ (1 : Int) = (0 : Int))) => absurd g6 (by decide))
    refine es_s0 1 (pc' := 14) (ls' := [some (aR 20 (0 : Int)), some (aI p), some (aL x), none, some (aL y), none]) (st' := [aL x, aR 20 (0 : Int)]) (S' := S) rfl ?_
    refine es_callS rfl rfl [aL x] [aR 20 (0 : Int)] rfl rfl (Nat.le_of_ble_eq_true rfl) (Nat.le_of_ble_eq_true rfl) (Nat.le_of_ble_eq_true rfl) ?_
    refine n25 (S := S) (v := x) (by assumption) (fun hc14 => ?_) (fun hc14 => ?_)
    · show Es G 67 17 [some (aR 20 (0 : Int)), some (aI p), some (aL x), none, some (aL y), none] [aI (1 : Int), aR 20 (0 : Int)] S _ _
      refine es_if rfl 32 rfl ⟨by decide, by decide⟩ (fun (g17 : (1 : Int) = (0 : Int)) => absurd g17 (by decide)) (fun (g17 : ¬ ((1 : Int) = (0 : Int))) => ?_)
      refine es_s0 1 (pc' := 22) (ls' := [some (aR 20 (0 : Int)), some (aI p), some (aL x), none, some (aL y), none]) (st' := [aL y, aR 20 (0 : Int)]) (S' := S) rfl ?_
      refine es_callS rfl rfl [aL y] [aR 20 (0 : Int)] rfl rfl (Nat.le_of_ble_eq_true rfl) (Nat.le_of_ble_eq_true rfl) (Nat.le_of_ble_eq_true rfl) ?_
      refine n25 (S := S) (v := y) (by assumption) (fun hc22 => ?_) (fun hc22 => ?_)
      · show Es G 67 25 [some (aR 20 (0 : Int)), some (aI p), some (aL x), none, some (aL y), none] [aI (1 : Int), aR 20 (0 : Int)] S _ _
        refine es_if rfl 32 rfl ⟨by decide, by decide⟩ (fun (g25 : (1 : Int) = (0 : Int)) => absurd g25 (by decide)) (fun (g25 : ¬ ((1 : Int) = (0 : Int))) => ?_)
        refine es_sg 3 (p := ((0 : Int) = 0) ∧ (r32 (0 : Int))) (pc' := 36) (ls' := [some (aR 20 (0 : Int)), some (aI p), some (aL x), none, some (aL y), none]) (st' := []) (S' := su S 20 0 0 0) rfl ⟨rfl, ⟨by decide, by decide⟩⟩ ?_
        refine es_rg (fun hg2 => ?_)
        refine es_sg 2 (p := (0 : Int) = 0) (pc' := 40) (ls' := [some (aR 20 (0 : Int)), some (aI p), some (aL x), none, some (aL y), none]) (st' := [aI (0 : Int)]) (S' := su S 20 0 0 0) rfl rfl ?_
        refine es_if rfl 45 rfl ⟨by omega, by omega⟩ (fun (g40 : (0 : Int) = (0 : Int)) => ?_) (fun (g40 : ¬ ((0 : Int) = (0 : Int))) => absurd g40 (by decide))
        refine es_s0 2 (pc' := 47) (ls' := [some (aR 20 (0 : Int)), some (aI p), some (aL x), none, some (aL y), none]) (st' := [aI p, aR 20 (0 : Int)]) (S' := su S 20 0 0 0) rfl ?_
        refine es_callV rfl rfl 20 (0 : Int) [aI p] [] rfl rfl rfl rfl (Nat.le_of_ble_eq_true rfl) (Nat.le_of_ble_eq_true rfl) (Nat.le_of_ble_eq_true rfl) ?_
        refine n66 (S := su S 20 0 0 0) (p := p) (by omega) (show S 27 0 p = -1 ∨ (0 ≤ S 27 0 p ∧ S 27 0 p < 20) from hch (by omega)) (fun hc47 => ?_) (fun hc47 => ?_)
        · show Es G 67 50 [some (aR 20 (0 : Int)), some (aI p), some (aL x), none, some (aL y), none] [aI (1 : Int)] (su S 20 0 0 0) _ _
          refine es_if rfl 60 rfl ⟨by decide, by decide⟩ (fun (g50 : (1 : Int) = (0 : Int)) => absurd g50 (by decide)) (fun (g50 : ¬ ((1 : Int) = (0 : Int))) => ?_)
          refine es_sg 5 (p := ((0 : Int) = 0) ∧ ((((0 : Int) = 0) ∧ (0 ≤ p ∧ p < 60)) ∧ ((1 : Int) = 0 ∨ (1 : Int) = 1))) (pc' := 60) (ls' := [some (aR 20 (0 : Int)), some (aI p), some (aL x), none, some (aL y), none]) (st' := []) (S' := su (su S 20 0 0 0) 29 0 p 1) rfl ⟨rfl, ⟨⟨rfl, (by omega)⟩, (by decide)⟩⟩ ?_
          refine es_rg (fun hg3 => ?_)
          refine es_sg 6 (p := (0 : Int) = 0) (pc' := 69) (ls' := [some (aR 20 (0 : Int)), some (aI p), some (aL x), none, some (aL y), none]) (st' := [aR 26 (0 : Int), aL y, aL x, aI p, aR 20 (0 : Int)]) (S' := su (su S 20 0 0 0) 29 0 p 1) rfl rfl ?_
          refine es_sg 2 (p := ((0 : Int) = 0) ∧ (0 ≤ p ∧ p < 60)) (pc' := 71) (ls' := [some (aR 20 (0 : Int)), some (aI p), some (aL x), none, some (aL y), none]) (st' := [aI (S 26 0 p), aL y, aL x, aI p, aR 20 (0 : Int)]) (S' := su (su S 20 0 0 0) 29 0 p 1) rfl ⟨rfl, (by omega)⟩ ?_
          refine es_callV rfl rfl 20 (0 : Int) [aI p, aL x, aL y, aI (S 26 0 p)] [] rfl rfl rfl rfl (Nat.le_of_ble_eq_true rfl) (Nat.le_of_ble_eq_true rfl) (Nat.le_of_ble_eq_true rfl) ?_
          refine n27 (S := su (su S 20 0 0 0) 29 0 p 1) (i := p) (x := x) (y := y) (t := (S 26 0 p)) (by omega) (by assumption) (by assumption) (rgI hg1 (t := 26) (i := (0 : Int)) (q := p) (by omega : 0 ≤ (0 : Int) ∧ (0 : Int) < 1) (by omega) rfl) (fun hc71 => ?_) (fun hc71 => ?_)
          · show Es G 67 74 [some (aR 20 (0 : Int)), some (aI p), some (aL x), none, some (aL y), none] [aI (1 : Int)] (su (su (su (su (su S 20 0 0 0) 29 0 p 1) 24 0 p x) 25 0 p y) 26 0 p (S 26 0 p)) _ _
            refine es_rg (fun hg4 => ?_)
            refine es_iret rfl rfl rfl (Or.inr ⟨rfl, (by decide)⟩) ?_
            first | exact h1 (by omega) | (exfalso; omega)
          · show Es G 67 74 [some (aR 20 (0 : Int)), some (aI p), some (aL x), none, some (aL y), none] [aI (0 : Int)] (su (su (su (su (su S 20 0 0 0) 29 0 p 1) 24 0 p x) 25 0 p y) 26 0 p (S 26 0 p)) _ _
            refine es_rg (fun hg5 => ?_)
            refine es_iret rfl rfl rfl (Or.inr ⟨rfl, (by decide)⟩) ?_
            first | exact h0 (by omega) | (exfalso; omega)
        · show Es G 67 50 [some (aR 20 (0 : Int)), some (aI p), some (aL x), none, some (aL y), none] [aI (0 : Int)] (su S 20 0 0 0) _ _
          refine es_if rfl 60 rfl ⟨by decide, by decide⟩ (fun (g50 : (0 : Int) = (0 : Int)) => ?_) (fun (g50 : ¬ ((0 : Int) = (0 : Int))) => absurd g50 (by decide))
          refine es_sg 6 (p := (0 : Int) = 0) (pc' := 69) (ls' := [some (aR 20 (0 : Int)), some (aI p), some (aL x), none, some (aL y), none]) (st' := [aR 26 (0 : Int), aL y, aL x, aI p, aR 20 (0 : Int)]) (S' := su S 20 0 0 0) rfl rfl ?_
          refine es_sg 2 (p := ((0 : Int) = 0) ∧ (0 ≤ p ∧ p < 60)) (pc' := 71) (ls' := [some (aR 20 (0 : Int)), some (aI p), some (aL x), none, some (aL y), none]) (st' := [aI (S 26 0 p), aL y, aL x, aI p, aR 20 (0 : Int)]) (S' := su S 20 0 0 0) rfl ⟨rfl, (by omega)⟩ ?_
          refine es_callV rfl rfl 20 (0 : Int) [aI p, aL x, aL y, aI (S 26 0 p)] [] rfl rfl rfl rfl (Nat.le_of_ble_eq_true rfl) (Nat.le_of_ble_eq_true rfl) (Nat.le_of_ble_eq_true rfl) ?_
          refine n27 (S := su S 20 0 0 0) (i := p) (x := x) (y := y) (t := (S 26 0 p)) (by omega) (by assumption) (by assumption) (rgI hg1 (t := 26) (i := (0 : Int)) (q := p) (by omega : 0 ≤ (0 : Int) ∧ (0 : Int) < 1) (by omega) rfl) (fun hc71 => ?_) (fun hc71 => ?_)
          · show Es G 67 74 [some (aR 20 (0 : Int)), some (aI p), some (aL x), none, some (aL y), none] [aI (1 : Int)] (su (su (su (su S 20 0 0 0) 24 0 p x) 25 0 p y) 26 0 p (S 26 0 p)) _ _
            refine es_rg (fun hg6 => ?_)
            refine es_iret rfl rfl rfl (Or.inr ⟨rfl, (by decide)⟩) ?_
            first | exact h3 (by omega) | (exfalso; omega)
          · show Es G 67 74 [some (aR 20 (0 : Int)), some (aI p), some (aL x), none, some (aL y), none] [aI (0 : Int)] (su (su (su (su S 20 0 0 0) 24 0 p x) 25 0 p y) 26 0 p (S 26 0 p)) _ _
            refine es_rg (fun hg7 => ?_)
            refine es_iret rfl rfl rfl (Or.inr ⟨rfl, (by decide)⟩) ?_
            first | exact h2 (by omega) | (exfalso; omega)
      · show Es G 67 25 [some (aR 20 (0 : Int)), some (aI p), some (aL x), none, some (aL y), none] [aI (0 : Int), aR 20 (0 : Int)] S _ _
        refine es_if rfl 32 rfl ⟨by decide, by decide⟩ (fun (g25 : (0 : Int) = (0 : Int)) => ?_) (fun (g25 : ¬ ((0 : Int) = (0 : Int))) => absurd g25 (by decide))
        refine es_sg 2 (p := ((0 : Int) = 0) ∧ (r32 (2 : Int))) (pc' := 36) (ls' := [some (aR 20 (0 : Int)), some (aI p), some (aL x), none, some (aL y), none]) (st' := []) (S' := su S 20 0 0 2) rfl ⟨rfl, ⟨by decide, by decide⟩⟩ ?_
        refine es_rg (fun hg8 => ?_)
        refine es_sg 2 (p := (0 : Int) = 0) (pc' := 40) (ls' := [some (aR 20 (0 : Int)), some (aI p), some (aL x), none, some (aL y), none]) (st' := [aI (2 : Int)]) (S' := su S 20 0 0 2) rfl rfl ?_
        refine es_if rfl 45 rfl ⟨by omega, by omega⟩ (fun (g40 : (2 : Int) = (0 : Int)) => absurd g40 (by decide)) (fun (g40 : ¬ ((2 : Int) = (0 : Int))) => ?_)
        refine es_s0 1 (pc' := 44) (ls' := [some (aR 20 (0 : Int)), some (aI p), some (aL x), none, some (aL y), none]) (st' := [aI (0 : Int)]) (S' := su S 20 0 0 2) rfl ?_
        refine es_iret rfl rfl rfl (Or.inr ⟨rfl, (by decide)⟩) ?_
        first | exact t2 (by omega) | (exfalso; omega)
    · show Es G 67 17 [some (aR 20 (0 : Int)), some (aI p), some (aL x), none, some (aL y), none] [aI (0 : Int), aR 20 (0 : Int)] S _ _
      refine es_if rfl 32 rfl ⟨by decide, by decide⟩ (fun (g17 : (0 : Int) = (0 : Int)) => ?_) (fun (g17 : ¬ ((0 : Int) = (0 : Int))) => absurd g17 (by decide))
      refine es_sg 2 (p := ((0 : Int) = 0) ∧ (r32 (2 : Int))) (pc' := 36) (ls' := [some (aR 20 (0 : Int)), some (aI p), some (aL x), none, some (aL y), none]) (st' := []) (S' := su S 20 0 0 2) rfl ⟨rfl, ⟨by decide, by decide⟩⟩ ?_
      refine es_rg (fun hg9 => ?_)
      refine es_sg 2 (p := (0 : Int) = 0) (pc' := 40) (ls' := [some (aR 20 (0 : Int)), some (aI p), some (aL x), none, some (aL y), none]) (st' := [aI (2 : Int)]) (S' := su S 20 0 0 2) rfl rfl ?_
      refine es_if rfl 45 rfl ⟨by omega, by omega⟩ (fun (g40 : (2 : Int) = (0 : Int)) => absurd g40 (by decide)) (fun (g40 : ¬ ((2 : Int) = (0 : Int))) => ?_)
      refine es_s0 1 (pc' := 44) (ls' := [some (aR 20 (0 : Int)), some (aI p), some (aL x), none, some (aL y), none]) (st' := [aI (0 : Int)]) (S' := su S 20 0 0 2) rfl ?_
      refine es_iret rfl rfl rfl (Or.inr ⟨rfl, (by decide)⟩) ?_
      first | exact t2 (by omega) | (exfalso; omega)
  · show Es G 67 6 [some (aR 20 (0 : Int)), some (aI p), some (aL x), none, some (aL y), none] [aI (0 : Int), aR 20 (0 : Int)] S _ _
    refine es_if rfl 13 rfl ⟨by decide, by decide⟩ (fun (g6 : ¬ (0 : Int) = (0 : Int)) => absurd g6 (by decide)) (fun (g6 : ¬ (¬ (0 : Int) = (0 : Int))) => ?_)
    refine es_sg 3 (p := ((0 : Int) = 0) ∧ (r32 (1 : Int))) (pc' := 36) (ls' := [some (aR 20 (0 : Int)), some (aI p), some (aL x), none, some (aL y), none]) (st' := []) (S' := su S 20 0 0 1) rfl ⟨rfl, ⟨by decide, by decide⟩⟩ ?_
    refine es_rg (fun hg10 => ?_)
    refine es_sg 2 (p := (0 : Int) = 0) (pc' := 40) (ls' := [some (aR 20 (0 : Int)), some (aI p), some (aL x), none, some (aL y), none]) (st' := [aI (1 : Int)]) (S' := su S 20 0 0 1) rfl rfl ?_
    refine es_if rfl 45 rfl ⟨by omega, by omega⟩ (fun (g40 : (1 : Int) = (0 : Int)) => absurd g40 (by decide)) (fun (g40 : ¬ ((1 : Int) = (0 : Int))) => ?_)
    refine es_s0 1 (pc' := 44) (ls' := [some (aR 20 (0 : Int)), some (aI p), some (aL x), none, some (aL y), none]) (st' := [aI (0 : Int)]) (S' := su S 20 0 0 1) rfl ?_
    refine es_iret rfl rfl rfl (Or.inr ⟨rfl, (by decide)⟩) ?_
    first | exact t1 (by omega) | (exfalso; omega)
def gRoom (S : Sg) (a b c d : Int) : Sg := su (su (su (su (su S 38 0 (4 * S 20 0 17) a) 38 0 (4 * S 20 0 17 + 1) b) 38 0 (4 * S 20 0 17 + 2) c) 38 0 (4 * S 20 0 17 + 3) d) 20 0 17 (S 20 0 17 + 1)
theorem n80 {G : Gw} {S : Sg} {k : Nat} {Q : AQ} (hnr : 0 ≤ S 20 0 17 ∧ S 20 0 17 ≤ 10) {a b c d : Int} (ha : r64 a) (hb : r64 b) (hc : r64 c) (hd : r64 d) (t1 : ¬ ((a ≤ c ∧ b ≤ d) ∧ ((-3000000 ≤ a ∧ a ≤ 3000000) ∧ (-3000000 ≤ b ∧ b ≤ 3000000) ∧ (-3000000 ≤ c ∧ c ≤ 3000000) ∧ (-3000000 ≤ d ∧ d ≤ 3000000))) → Q (.inl (some (aI 0))) (su S 20 0 0 1)) (h1 : ((a ≤ c ∧ b ≤ d) ∧ ((-3000000 ≤ a ∧ a ≤ 3000000) ∧ (-3000000 ≤ b ∧ b ≤ 3000000) ∧ (-3000000 ≤ c ∧ c ≤ 3000000) ∧ (-3000000 ≤ d ∧ d ≤ 3000000))) ∧ S 20 0 17 = 10 → Q (.inl (some (aI (-1)))) (su S 20 0 0 0)) (h0 : ((a ≤ c ∧ b ≤ d) ∧ ((-3000000 ≤ a ∧ a ≤ 3000000) ∧ (-3000000 ≤ b ∧ b ≤ 3000000) ∧ (-3000000 ≤ c ∧ c ≤ 3000000) ∧ (-3000000 ≤ d ∧ d ≤ 3000000))) ∧ S 20 0 17 < 10 → Q (.inl (some (aI (S 20 0 17)))) (gRoom (su S 20 0 0 0) a b c d)) : Es G 80 0 (aEnt 10 [aR 20 (0 : Int), aL a, aL b, aL c, aL d]) [] S (k + 1) Q := by
  refine es_rg (fun hg1 => ?_)
  refine es_s0 3 (pc' := 4) (ls' := [some (aR 20 (0 : Int)), some (aL a), none, some (aL b), none, some (aL c), none, some (aL d), none, none]) (st' := [aL c, aL a, aR 20 (0 : Int)]) (S' := S) rfl ?_
  refine es_lif rfl rfl 49 rfl (by assumption) (by assumption) (fun (g4 : c < a) => ?_) (fun (g4 : ¬ (c < a)) => ?_)
  · refine es_sg 2 (p := ((0 : Int) = 0) ∧ (r32 (1 : Int))) (pc' := 53) (ls' := [some (aR 20 (0 : Int)), some (aL a), none, some (aL b), none, some (aL c), none, some (aL d), none, none]) (st' := []) (S' := su S 20 0 0 1) rfl ⟨rfl, ⟨by decide, by decide⟩⟩ ?_
    refine es_rg (fun hg2 => ?_)
    refine es_sg 2 (p := (0 : Int) = 0) (pc' := 57) (ls' := [some (aR 20 (0 : Int)), some (aL a), none, some (aL b), none, some (aL c), none, some (aL d), none, none]) (st' := [aI (1 : Int)]) (S' := su S 20 0 0 1) rfl rfl ?_
    refine es_if rfl 62 rfl ⟨by omega, by omega⟩ (fun (g57 : (1 : Int) = (0 : Int)) => absurd g57 (by decide)) (fun (g57 : ¬ ((1 : Int) = (0 : Int))) => ?_)
    refine es_s0 1 (pc' := 61) (ls' := [some (aR 20 (0 : Int)), some (aL a), none, some (aL b), none, some (aL c), none, some (aL d), none, none]) (st' := [aI (0 : Int)]) (S' := su S 20 0 0 1) rfl ?_
    refine es_iret rfl rfl rfl (Or.inl rfl) ?_
    exact t1 (by omega)
  · refine es_s0 2 (pc' := 11) (ls' := [some (aR 20 (0 : Int)), some (aL a), none, some (aL b), none, some (aL c), none, some (aL d), none, none]) (st' := [aL d, aL b, aR 20 (0 : Int)]) (S' := S) rfl ?_
    refine es_lif rfl rfl 49 rfl (by assumption) (by assumption) (fun (g11 : d < b) => ?_) (fun (g11 : ¬ (d < b)) => ?_)
    · refine es_sg 2 (p := ((0 : Int) = 0) ∧ (r32 (1 : Int))) (pc' := 53) (ls' := [some (aR 20 (0 : Int)), some (aL a), none, some (aL b), none, some (aL c), none, some (aL d), none, none]) (st' := []) (S' := su S 20 0 0 1) rfl ⟨rfl, ⟨by decide, by decide⟩⟩ ?_
      refine es_rg (fun hg3 => ?_)
      refine es_sg 2 (p := (0 : Int) = 0) (pc' := 57) (ls' := [some (aR 20 (0 : Int)), some (aL a), none, some (aL b), none, some (aL c), none, some (aL d), none, none]) (st' := [aI (1 : Int)]) (S' := su S 20 0 0 1) rfl rfl ?_
      refine es_if rfl 62 rfl ⟨by omega, by omega⟩ (fun (g57 : (1 : Int) = (0 : Int)) => absurd g57 (by decide)) (fun (g57 : ¬ ((1 : Int) = (0 : Int))) => ?_)
      refine es_s0 1 (pc' := 61) (ls' := [some (aR 20 (0 : Int)), some (aL a), none, some (aL b), none, some (aL c), none, some (aL d), none, none]) (st' := [aI (0 : Int)]) (S' := su S 20 0 0 1) rfl ?_
      refine es_iret rfl rfl rfl (Or.inl rfl) ?_
      exact t1 (by omega)
    · refine es_s0 1 (pc' := 16) (ls' := [some (aR 20 (0 : Int)), some (aL a), none, some (aL b), none, some (aL c), none, some (aL d), none, none]) (st' := [aL a, aR 20 (0 : Int)]) (S' := S) rfl ?_
      refine es_callS rfl rfl [aL a] [aR 20 (0 : Int)] rfl rfl (Nat.le_of_ble_eq_true rfl) (Nat.le_of_ble_eq_true rfl) (Nat.le_of_ble_eq_true rfl) ?_
      refine n79 (S := S) (v := a) (by assumption) (fun hc16 => ?_) (fun hc16 => ?_)
      · show Es G 80 19 [some (aR 20 (0 : Int)), some (aL a), none, some (aL b), none, some (aL c), none, some (aL d), none, none] [aI (1 : Int), aR 20 (0 : Int)] S _ _
        refine es_if rfl 49 rfl ⟨by decide, by decide⟩ (fun (g19 : (1 : Int) = (0 : Int)) => absurd g19 (by decide)) (fun (g19 : ¬ ((1 : Int) = (0 : Int))) => ?_)
        refine es_s0 1 (pc' := 23) (ls' := [some (aR 20 (0 : Int)), some (aL a), none, some (aL b), none, some (aL c), none, some (aL d), none, none]) (st' := [aL b, aR 20 (0 : Int)]) (S' := S) rfl ?_
        refine es_callS rfl rfl [aL b] [aR 20 (0 : Int)] rfl rfl (Nat.le_of_ble_eq_true rfl) (Nat.le_of_ble_eq_true rfl) (Nat.le_of_ble_eq_true rfl) ?_
        refine n79 (S := S) (v := b) (by assumption) (fun hc23 => ?_) (fun hc23 => ?_)
        · show Es G 80 26 [some (aR 20 (0 : Int)), some (aL a), none, some (aL b), none, some (aL c), none, some (aL d), none, none] [aI (1 : Int), aR 20 (0 : Int)] S _ _
          refine es_if rfl 49 rfl ⟨by decide, by decide⟩ (fun (g26 : (1 : Int) = (0 : Int)) => absurd g26 (by decide)) (fun (g26 : ¬ ((1 : Int) = (0 : Int))) => ?_)
          refine es_s0 1 (pc' := 31) (ls' := [some (aR 20 (0 : Int)), some (aL a), none, some (aL b), none, some (aL c), none, some (aL d), none, none]) (st' := [aL c, aR 20 (0 : Int)]) (S' := S) rfl ?_
          refine es_callS rfl rfl [aL c] [aR 20 (0 : Int)] rfl rfl (Nat.le_of_ble_eq_true rfl) (Nat.le_of_ble_eq_true rfl) (Nat.le_of_ble_eq_true rfl) ?_
          refine n79 (S := S) (v := c) (by assumption) (fun hc31 => ?_) (fun hc31 => ?_)
          · show Es G 80 34 [some (aR 20 (0 : Int)), some (aL a), none, some (aL b), none, some (aL c), none, some (aL d), none, none] [aI (1 : Int), aR 20 (0 : Int)] S _ _
            refine es_if rfl 49 rfl ⟨by decide, by decide⟩ (fun (g34 : (1 : Int) = (0 : Int)) => absurd g34 (by decide)) (fun (g34 : ¬ ((1 : Int) = (0 : Int))) => ?_)
            refine es_s0 1 (pc' := 39) (ls' := [some (aR 20 (0 : Int)), some (aL a), none, some (aL b), none, some (aL c), none, some (aL d), none, none]) (st' := [aL d, aR 20 (0 : Int)]) (S' := S) rfl ?_
            refine es_callS rfl rfl [aL d] [aR 20 (0 : Int)] rfl rfl (Nat.le_of_ble_eq_true rfl) (Nat.le_of_ble_eq_true rfl) (Nat.le_of_ble_eq_true rfl) ?_
            refine n79 (S := S) (v := d) (by assumption) (fun hc39 => ?_) (fun hc39 => ?_)
            · show Es G 80 42 [some (aR 20 (0 : Int)), some (aL a), none, some (aL b), none, some (aL c), none, some (aL d), none, none] [aI (1 : Int), aR 20 (0 : Int)] S _ _
              refine es_if rfl 49 rfl ⟨by decide, by decide⟩ (fun (g42 : (1 : Int) = (0 : Int)) => absurd g42 (by decide)) (fun (g42 : ¬ ((1 : Int) = (0 : Int))) => ?_)
              refine es_sg 3 (p := ((0 : Int) = 0) ∧ (r32 (0 : Int))) (pc' := 53) (ls' := [some (aR 20 (0 : Int)), some (aL a), none, some (aL b), none, some (aL c), none, some (aL d), none, none]) (st' := []) (S' := su S 20 0 0 0) rfl ⟨rfl, ⟨by decide, by decide⟩⟩ ?_
              refine es_rg (fun hg4 => ?_)
              refine es_sg 2 (p := (0 : Int) = 0) (pc' := 57) (ls' := [some (aR 20 (0 : Int)), some (aL a), none, some (aL b), none, some (aL c), none, some (aL d), none, none]) (st' := [aI (0 : Int)]) (S' := su S 20 0 0 0) rfl rfl ?_
              refine es_if rfl 62 rfl ⟨by omega, by omega⟩ (fun (g57 : (0 : Int) = (0 : Int)) => ?_) (fun (g57 : ¬ ((0 : Int) = (0 : Int))) => absurd g57 (by decide))
              refine es_sg 3 (p := (0 : Int) = 0) (pc' := 68) (ls' := [some (aR 20 (0 : Int)), some (aL a), none, some (aL b), none, some (aL c), none, some (aL d), none, none]) (st' := [aI (10 : Int), aI (S 20 0 17)]) (S' := su S 20 0 0 0) rfl rfl ?_
              refine es_icmp rfl 73 rfl (rgI hg1 (t := 20) (i := (0 : Int)) (q := (17 : Int)) (by omega : 0 ≤ (0 : Int) ∧ (0 : Int) < 1) (by omega) rfl) ⟨by decide, by decide⟩ (fun (g68 : ¬ (S 20 0 17) = (10 : Int)) => ?_) (fun (g68 : ¬ (¬ (S 20 0 17) = (10 : Int))) => ?_)
              · refine es_sg 6 (p := (0 : Int) = 0) (pc' := 82) (ls' := [some (aR 20 (0 : Int)), some (aL a), none, some (aL b), none, some (aL c), none, some (aL d), none, some (aI (4 * (S 20 0 17)))]) (st' := [aR 20 (0 : Int)]) (S' := su S 20 0 0 0) rfl rfl ?_
                refine es_sg 4 (p := ((0 : Int) = 0) ∧ ((((0 : Int) = 0) ∧ (0 ≤ (4 * (S 20 0 17)) ∧ (4 * (S 20 0 17)) < 40)) ∧ (r64 a))) (pc' := 89) (ls' := [some (aR 20 (0 : Int)), some (aL a), none, some (aL b), none, some (aL c), none, some (aL d), none, some (aI (4 * (S 20 0 17)))]) (st' := []) (S' := su (su S 20 0 0 0) 38 0 (4 * (S 20 0 17)) a) rfl ⟨rfl, ⟨⟨rfl, (by omega)⟩, (by assumption)⟩⟩ ?_
                refine es_rg (fun hg5 => ?_)
                refine es_sg 6 (p := (0 : Int) = 0) (pc' := 98) (ls' := [some (aR 20 (0 : Int)), some (aL a), none, some (aL b), none, some (aL c), none, some (aL d), none, some (aI (4 * (S 20 0 17)))]) (st' := [aL b, aI ((4 * (S 20 0 17)) + 1), aR 38 (0 : Int)]) (S' := su (su S 20 0 0 0) 38 0 (4 * (S 20 0 17)) a) rfl rfl ?_
                refine es_sg 1 (p := (((0 : Int) = 0) ∧ (0 ≤ ((4 * (S 20 0 17)) + 1) ∧ ((4 * (S 20 0 17)) + 1) < 40)) ∧ (r64 b)) (pc' := 99) (ls' := [some (aR 20 (0 : Int)), some (aL a), none, some (aL b), none, some (aL c), none, some (aL d), none, some (aI (4 * (S 20 0 17)))]) (st' := []) (S' := su (su (su S 20 0 0 0) 38 0 (4 * (S 20 0 17)) a) 38 0 ((4 * (S 20 0 17)) + 1) b) rfl ⟨⟨rfl, (by omega)⟩, (by assumption)⟩ ?_
                refine es_rg (fun hg6 => ?_)
                refine es_sg 6 (p := (0 : Int) = 0) (pc' := 109) (ls' := [some (aR 20 (0 : Int)), some (aL a), none, some (aL b), none, some (aL c), none, some (aL d), none, some (aI (4 * (S 20 0 17)))]) (st' := [aL c, aI ((4 * (S 20 0 17)) + 2), aR 38 (0 : Int)]) (S' := su (su (su S 20 0 0 0) 38 0 (4 * (S 20 0 17)) a) 38 0 ((4 * (S 20 0 17)) + 1) b) rfl rfl ?_
                refine es_sg 1 (p := (((0 : Int) = 0) ∧ (0 ≤ ((4 * (S 20 0 17)) + 2) ∧ ((4 * (S 20 0 17)) + 2) < 40)) ∧ (r64 c)) (pc' := 110) (ls' := [some (aR 20 (0 : Int)), some (aL a), none, some (aL b), none, some (aL c), none, some (aL d), none, some (aI (4 * (S 20 0 17)))]) (st' := []) (S' := su (su (su (su S 20 0 0 0) 38 0 (4 * (S 20 0 17)) a) 38 0 ((4 * (S 20 0 17)) + 1) b) 38 0 ((4 * (S 20 0 17)) + 2) c) rfl ⟨⟨rfl, (by omega)⟩, (by assumption)⟩ ?_
                refine es_rg (fun hg7 => ?_)
                refine es_sg 6 (p := (0 : Int) = 0) (pc' := 120) (ls' := [some (aR 20 (0 : Int)), some (aL a), none, some (aL b), none, some (aL c), none, some (aL d), none, some (aI (4 * (S 20 0 17)))]) (st' := [aL d, aI ((4 * (S 20 0 17)) + 3), aR 38 (0 : Int)]) (S' := su (su (su (su S 20 0 0 0) 38 0 (4 * (S 20 0 17)) a) 38 0 ((4 * (S 20 0 17)) + 1) b) 38 0 ((4 * (S 20 0 17)) + 2) c) rfl rfl ?_
                refine es_sg 1 (p := (((0 : Int) = 0) ∧ (0 ≤ ((4 * (S 20 0 17)) + 3) ∧ ((4 * (S 20 0 17)) + 3) < 40)) ∧ (r64 d)) (pc' := 121) (ls' := [some (aR 20 (0 : Int)), some (aL a), none, some (aL b), none, some (aL c), none, some (aL d), none, some (aI (4 * (S 20 0 17)))]) (st' := []) (S' := su (su (su (su (su S 20 0 0 0) 38 0 (4 * (S 20 0 17)) a) 38 0 ((4 * (S 20 0 17)) + 1) b) 38 0 ((4 * (S 20 0 17)) + 2) c) 38 0 ((4 * (S 20 0 17)) + 3) d) rfl ⟨⟨rfl, (by omega)⟩, (by assumption)⟩ ?_
                refine es_rg (fun hg8 => ?_)
                refine es_sg 6 (p := ((0 : Int) = 0) ∧ (((0 : Int) = 0) ∧ (r32 ((S 20 0 17) + 1)))) (pc' := 131) (ls' := [some (aR 20 (0 : Int)), some (aL a), none, some (aL b), none, some (aL c), none, some (aL d), none, some (aI (4 * (S 20 0 17)))]) (st' := []) (S' := su (su (su (su (su (su S 20 0 0 0) 38 0 (4 * (S 20 0 17)) a) 38 0 ((4 * (S 20 0 17)) + 1) b) 38 0 ((4 * (S 20 0 17)) + 2) c) 38 0 ((4 * (S 20 0 17)) + 3) d) 20 0 17 ((S 20 0 17) + 1)) rfl ⟨rfl, ⟨rfl, ⟨by omega, by omega⟩⟩⟩ ?_
                refine es_rg (fun hg9 => ?_)
                refine es_sg 4 (p := (0 : Int) = 0) (pc' := 137) (ls' := [some (aR 20 (0 : Int)), some (aL a), none, some (aL b), none, some (aL c), none, some (aL d), none, some (aI (4 * (S 20 0 17)))]) (st' := [aI (((S 20 0 17) + 1) - 1)]) (S' := su (su (su (su (su (su S 20 0 0 0) 38 0 (4 * (S 20 0 17)) a) 38 0 ((4 * (S 20 0 17)) + 1) b) 38 0 ((4 * (S 20 0 17)) + 2) c) 38 0 ((4 * (S 20 0 17)) + 3) d) 20 0 17 ((S 20 0 17) + 1)) rfl rfl ?_
                refine es_iret rfl rfl rfl (Or.inl rfl) ?_
                first | (rw [show (S 20 0 17 + 1 - 1 : Int) = S 20 0 17 from by omega]; exact h0 (by omega)) | (exfalso; omega)
              · refine es_s0 1 (pc' := 72) (ls' := [some (aR 20 (0 : Int)), some (aL a), none, some (aL b), none, some (aL c), none, some (aL d), none, none]) (st' := [aI (-1 : Int)]) (S' := su S 20 0 0 0) rfl ?_
                refine es_iret rfl rfl rfl (Or.inl rfl) ?_
                exact h1 (by omega)
            · show Es G 80 42 [some (aR 20 (0 : Int)), some (aL a), none, some (aL b), none, some (aL c), none, some (aL d), none, none] [aI (0 : Int), aR 20 (0 : Int)] S _ _
              refine es_if rfl 49 rfl ⟨by decide, by decide⟩ (fun (g42 : (0 : Int) = (0 : Int)) => ?_) (fun (g42 : ¬ ((0 : Int) = (0 : Int))) => absurd g42 (by decide))
              refine es_sg 2 (p := ((0 : Int) = 0) ∧ (r32 (1 : Int))) (pc' := 53) (ls' := [some (aR 20 (0 : Int)), some (aL a), none, some (aL b), none, some (aL c), none, some (aL d), none, none]) (st' := []) (S' := su S 20 0 0 1) rfl ⟨rfl, ⟨by decide, by decide⟩⟩ ?_
              refine es_rg (fun hg10 => ?_)
              refine es_sg 2 (p := (0 : Int) = 0) (pc' := 57) (ls' := [some (aR 20 (0 : Int)), some (aL a), none, some (aL b), none, some (aL c), none, some (aL d), none, none]) (st' := [aI (1 : Int)]) (S' := su S 20 0 0 1) rfl rfl ?_
              refine es_if rfl 62 rfl ⟨by omega, by omega⟩ (fun (g57 : (1 : Int) = (0 : Int)) => absurd g57 (by decide)) (fun (g57 : ¬ ((1 : Int) = (0 : Int))) => ?_)
              refine es_s0 1 (pc' := 61) (ls' := [some (aR 20 (0 : Int)), some (aL a), none, some (aL b), none, some (aL c), none, some (aL d), none, none]) (st' := [aI (0 : Int)]) (S' := su S 20 0 0 1) rfl ?_
              refine es_iret rfl rfl rfl (Or.inl rfl) ?_
              exact t1 (by omega)
          · show Es G 80 34 [some (aR 20 (0 : Int)), some (aL a), none, some (aL b), none, some (aL c), none, some (aL d), none, none] [aI (0 : Int), aR 20 (0 : Int)] S _ _
            refine es_if rfl 49 rfl ⟨by decide, by decide⟩ (fun (g34 : (0 : Int) = (0 : Int)) => ?_) (fun (g34 : ¬ ((0 : Int) = (0 : Int))) => absurd g34 (by decide))
            refine es_sg 2 (p := ((0 : Int) = 0) ∧ (r32 (1 : Int))) (pc' := 53) (ls' := [some (aR 20 (0 : Int)), some (aL a), none, some (aL b), none, some (aL c), none, some (aL d), none, none]) (st' := []) (S' := su S 20 0 0 1) rfl ⟨rfl, ⟨by decide, by decide⟩⟩ ?_
            refine es_rg (fun hg11 => ?_)
            refine es_sg 2 (p := (0 : Int) = 0) (pc' := 57) (ls' := [some (aR 20 (0 : Int)), some (aL a), none, some (aL b), none, some (aL c), none, some (aL d), none, none]) (st' := [aI (1 : Int)]) (S' := su S 20 0 0 1) rfl rfl ?_
            refine es_if rfl 62 rfl ⟨by omega, by omega⟩ (fun (g57 : (1 : Int) = (0 : Int)) => absurd g57 (by decide)) (fun (g57 : ¬ ((1 : Int) = (0 : Int))) => ?_)
            refine es_s0 1 (pc' := 61) (ls' := [some (aR 20 (0 : Int)), some (aL a), none, some (aL b), none, some (aL c), none, some (aL d), none, none]) (st' := [aI (0 : Int)]) (S' := su S 20 0 0 1) rfl ?_
            refine es_iret rfl rfl rfl (Or.inl rfl) ?_
            exact t1 (by omega)
        · show Es G 80 26 [some (aR 20 (0 : Int)), some (aL a), none, some (aL b), none, some (aL c), none, some (aL d), none, none] [aI (0 : Int), aR 20 (0 : Int)] S _ _
          refine es_if rfl 49 rfl ⟨by decide, by decide⟩ (fun (g26 : (0 : Int) = (0 : Int)) => ?_) (fun (g26 : ¬ ((0 : Int) = (0 : Int))) => absurd g26 (by decide))
          refine es_sg 2 (p := ((0 : Int) = 0) ∧ (r32 (1 : Int))) (pc' := 53) (ls' := [some (aR 20 (0 : Int)), some (aL a), none, some (aL b), none, some (aL c), none, some (aL d), none, none]) (st' := []) (S' := su S 20 0 0 1) rfl ⟨rfl, ⟨by decide, by decide⟩⟩ ?_
          refine es_rg (fun hg12 => ?_)
          refine es_sg 2 (p := (0 : Int) = 0) (pc' := 57) (ls' := [some (aR 20 (0 : Int)), some (aL a), none, some (aL b), none, some (aL c), none, some (aL d), none, none]) (st' := [aI (1 : Int)]) (S' := su S 20 0 0 1) rfl rfl ?_
          refine es_if rfl 62 rfl ⟨by omega, by omega⟩ (fun (g57 : (1 : Int) = (0 : Int)) => absurd g57 (by decide)) (fun (g57 : ¬ ((1 : Int) = (0 : Int))) => ?_)
          refine es_s0 1 (pc' := 61) (ls' := [some (aR 20 (0 : Int)), some (aL a), none, some (aL b), none, some (aL c), none, some (aL d), none, none]) (st' := [aI (0 : Int)]) (S' := su S 20 0 0 1) rfl ?_
          refine es_iret rfl rfl rfl (Or.inl rfl) ?_
          exact t1 (by omega)
      · show Es G 80 19 [some (aR 20 (0 : Int)), some (aL a), none, some (aL b), none, some (aL c), none, some (aL d), none, none] [aI (0 : Int), aR 20 (0 : Int)] S _ _
        refine es_if rfl 49 rfl ⟨by decide, by decide⟩ (fun (g19 : (0 : Int) = (0 : Int)) => ?_) (fun (g19 : ¬ ((0 : Int) = (0 : Int))) => absurd g19 (by decide))
        refine es_sg 2 (p := ((0 : Int) = 0) ∧ (r32 (1 : Int))) (pc' := 53) (ls' := [some (aR 20 (0 : Int)), some (aL a), none, some (aL b), none, some (aL c), none, some (aL d), none, none]) (st' := []) (S' := su S 20 0 0 1) rfl ⟨rfl, ⟨by decide, by decide⟩⟩ ?_
        refine es_rg (fun hg13 => ?_)
        refine es_sg 2 (p := (0 : Int) = 0) (pc' := 57) (ls' := [some (aR 20 (0 : Int)), some (aL a), none, some (aL b), none, some (aL c), none, some (aL d), none, none]) (st' := [aI (1 : Int)]) (S' := su S 20 0 0 1) rfl rfl ?_
        refine es_if rfl 62 rfl ⟨by omega, by omega⟩ (fun (g57 : (1 : Int) = (0 : Int)) => absurd g57 (by decide)) (fun (g57 : ¬ ((1 : Int) = (0 : Int))) => ?_)
        refine es_s0 1 (pc' := 61) (ls' := [some (aR 20 (0 : Int)), some (aL a), none, some (aL b), none, some (aL c), none, some (aL d), none, none]) (st' := [aI (0 : Int)]) (S' := su S 20 0 0 1) rfl ?_
        refine es_iret rfl rfl rfl (Or.inl rfl) ?_
        exact t1 (by omega)
theorem n85 {G : Gw} {S : Sg} {k : Nat} {Q : AQ} (hnp : 0 ≤ S 20 0 1 ∧ S 20 0 1 ≤ 60) (hnr : 0 ≤ S 20 0 17 ∧ S 20 0 17 ≤ 10) {r p : Int} (hr : r32 r) (hp : r32 p) (t1 : ¬ ((0 ≤ r ∧ r < S 20 0 17) ∧ (0 ≤ p ∧ p < S 20 0 1)) → Q (.inl (some (aI 0))) (su S 20 0 0 1)) (h0 : ((0 ≤ r ∧ r < S 20 0 17) ∧ (0 ≤ p ∧ p < S 20 0 1)) ∧ ¬ S 39 0 (60 * r + p) = 0 → Q (.inl (some (aI 0))) (su S 20 0 0 0)) (h1 : ((0 ≤ r ∧ r < S 20 0 17) ∧ (0 ≤ p ∧ p < S 20 0 1)) ∧ S 39 0 (60 * r + p) = 0 → Q (.inl (some (aI 1))) (su (su S 20 0 0 0) 39 0 (60 * r + p) 1)) : Es G 85 0 (aEnt 3 [aR 20 (0 : Int), aI r, aI p]) [] S (k + 1) Q := by
  refine es_rg (fun hg1 => ?_)
  refine es_s0 3 (pc' := 3) (ls' := [some (aR 20 (0 : Int)), some (aI r), some (aI p)]) (st' := [aI r, aR 20 (0 : Int), aR 20 (0 : Int)]) (S' := S) rfl ?_
  refine es_callV rfl rfl 20 (0 : Int) [aI r] [aR 20 (0 : Int)] rfl rfl rfl rfl (Nat.le_of_ble_eq_true rfl) (Nat.le_of_ble_eq_true rfl) (Nat.le_of_ble_eq_true rfl) ?_
  refine n84 (S := S) (n := r) (by assumption) (fun hc3 => ?_) (fun hc3 => ?_)
  · show Es G 85 6 [some (aR 20 (0 : Int)), some (aI r), some (aI p)] [aI (1 : Int), aR 20 (0 : Int)] S _ _
    refine es_if rfl 21 rfl ⟨by decide, by decide⟩ (fun (g6 : (1 : Int) = (0 : Int)) => absurd g6 (by decide)) (fun (g6 : ¬ ((1 : Int) = (0 : Int))) => ?_)
    refine es_s0 2 (pc' := 11) (ls' := [some (aR 20 (0 : Int)), some (aI r), some (aI p)]) (st' := [aI p, aR 20 (0 : Int), aR 20 (0 : Int)]) (S' := S) rfl ?_
    refine es_callV rfl rfl 20 (0 : Int) [aI p] [aR 20 (0 : Int)] rfl rfl rfl rfl (Nat.le_of_ble_eq_true rfl) (Nat.le_of_ble_eq_true rfl) (Nat.le_of_ble_eq_true rfl) ?_
    refine n26 (S := S) (n := p) (by assumption) (fun hc11 => ?_) (fun hc11 => ?_)
    · show Es G 85 14 [some (aR 20 (0 : Int)), some (aI r), some (aI p)] [aI (1 : Int), aR 20 (0 : Int)] S _ _
      refine es_if rfl 21 rfl ⟨by decide, by decide⟩ (fun (g14 : (1 : Int) = (0 : Int)) => absurd g14 (by decide)) (fun (g14 : ¬ ((1 : Int) = (0 : Int))) => ?_)
      refine es_sg 3 (p := ((0 : Int) = 0) ∧ (r32 (0 : Int))) (pc' := 25) (ls' := [some (aR 20 (0 : Int)), some (aI r), some (aI p)]) (st' := []) (S' := su S 20 0 0 0) rfl ⟨rfl, ⟨by decide, by decide⟩⟩ ?_
      refine es_rg (fun hg2 => ?_)
      refine es_sg 2 (p := (0 : Int) = 0) (pc' := 29) (ls' := [some (aR 20 (0 : Int)), some (aI r), some (aI p)]) (st' := [aI (0 : Int)]) (S' := su S 20 0 0 0) rfl rfl ?_
      refine es_if rfl 46 rfl ⟨by omega, by omega⟩ (fun (g29 : ¬ (0 : Int) = (0 : Int)) => absurd g29 (by decide)) (fun (g29 : ¬ (¬ (0 : Int) = (0 : Int))) => ?_)
      refine es_sg 6 (p := (0 : Int) = 0) (pc' := 41) (ls' := [some (aR 20 (0 : Int)), some (aI r), some (aI p)]) (st' := [aI p, aI (60 * r), aR 39 (0 : Int)]) (S' := su S 20 0 0 0) rfl rfl ?_
      refine es_sg 2 (p := ((0 : Int) = 0) ∧ (0 ≤ ((60 * r) + p) ∧ ((60 * r) + p) < 600)) (pc' := 43) (ls' := [some (aR 20 (0 : Int)), some (aI r), some (aI p)]) (st' := [aI (S 39 0 ((60 * r) + p))]) (S' := su S 20 0 0 0) rfl ⟨rfl, (by omega)⟩ ?_
      refine es_if rfl 48 rfl (r32_z (rgZ hg1 (t := 39) (i := (0 : Int)) (q := ((60 * r) + p)) (by omega : 0 ≤ (0 : Int) ∧ (0 : Int) < 1) (by omega) rfl)) (fun (g43 : (S 39 0 ((60 * r) + p)) = (0 : Int)) => ?_) (fun (g43 : ¬ ((S 39 0 ((60 * r) + p)) = (0 : Int))) => ?_)
      · refine es_sg 6 (p := (0 : Int) = 0) (pc' := 57) (ls' := [some (aR 20 (0 : Int)), some (aI r), some (aI p)]) (st' := [aI p, aI (60 * r), aR 39 (0 : Int)]) (S' := su S 20 0 0 0) rfl rfl ?_
        refine es_sg 3 (p := (((0 : Int) = 0) ∧ (0 ≤ ((60 * r) + p) ∧ ((60 * r) + p) < 600)) ∧ ((1 : Int) = 0 ∨ (1 : Int) = 1)) (pc' := 60) (ls' := [some (aR 20 (0 : Int)), some (aI r), some (aI p)]) (st' := []) (S' := su (su S 20 0 0 0) 39 0 ((60 * r) + p) 1) rfl ⟨⟨rfl, (by omega)⟩, (by decide)⟩ ?_
        refine es_rg (fun hg3 => ?_)
        refine es_s0 1 (pc' := 61) (ls' := [some (aR 20 (0 : Int)), some (aI r), some (aI p)]) (st' := [aI (1 : Int)]) (S' := su (su S 20 0 0 0) 39 0 ((60 * r) + p) 1) rfl ?_
        refine es_iret rfl rfl rfl (Or.inr ⟨rfl, (by decide)⟩) ?_
        first | exact h1 (by omega) | (exfalso; omega)
      · refine es_s0 1 (pc' := 47) (ls' := [some (aR 20 (0 : Int)), some (aI r), some (aI p)]) (st' := [aI (0 : Int)]) (S' := su S 20 0 0 0) rfl ?_
        refine es_iret rfl rfl rfl (Or.inr ⟨rfl, (by decide)⟩) ?_
        first | exact h0 (by omega) | (exfalso; omega)
    · show Es G 85 14 [some (aR 20 (0 : Int)), some (aI r), some (aI p)] [aI (0 : Int), aR 20 (0 : Int)] S _ _
      refine es_if rfl 21 rfl ⟨by decide, by decide⟩ (fun (g14 : (0 : Int) = (0 : Int)) => ?_) (fun (g14 : ¬ ((0 : Int) = (0 : Int))) => absurd g14 (by decide))
      refine es_sg 2 (p := ((0 : Int) = 0) ∧ (r32 (1 : Int))) (pc' := 25) (ls' := [some (aR 20 (0 : Int)), some (aI r), some (aI p)]) (st' := []) (S' := su S 20 0 0 1) rfl ⟨rfl, ⟨by decide, by decide⟩⟩ ?_
      refine es_rg (fun hg4 => ?_)
      refine es_sg 2 (p := (0 : Int) = 0) (pc' := 29) (ls' := [some (aR 20 (0 : Int)), some (aI r), some (aI p)]) (st' := [aI (1 : Int)]) (S' := su S 20 0 0 1) rfl rfl ?_
      refine es_if rfl 46 rfl ⟨by omega, by omega⟩ (fun (g29 : ¬ (1 : Int) = (0 : Int)) => ?_) (fun (g29 : ¬ (¬ (1 : Int) = (0 : Int))) => absurd g29 (by decide))
      refine es_s0 1 (pc' := 47) (ls' := [some (aR 20 (0 : Int)), some (aI r), some (aI p)]) (st' := [aI (0 : Int)]) (S' := su S 20 0 0 1) rfl ?_
      refine es_iret rfl rfl rfl (Or.inr ⟨rfl, (by decide)⟩) ?_
      first | exact t1 (by omega) | (exfalso; omega)
  · show Es G 85 6 [some (aR 20 (0 : Int)), some (aI r), some (aI p)] [aI (0 : Int), aR 20 (0 : Int)] S _ _
    refine es_if rfl 21 rfl ⟨by decide, by decide⟩ (fun (g6 : (0 : Int) = (0 : Int)) => ?_) (fun (g6 : ¬ ((0 : Int) = (0 : Int))) => absurd g6 (by decide))
    refine es_sg 2 (p := ((0 : Int) = 0) ∧ (r32 (1 : Int))) (pc' := 25) (ls' := [some (aR 20 (0 : Int)), some (aI r), some (aI p)]) (st' := []) (S' := su S 20 0 0 1) rfl ⟨rfl, ⟨by decide, by decide⟩⟩ ?_
    refine es_rg (fun hg5 => ?_)
    refine es_sg 2 (p := (0 : Int) = 0) (pc' := 29) (ls' := [some (aR 20 (0 : Int)), some (aI r), some (aI p)]) (st' := [aI (1 : Int)]) (S' := su S 20 0 0 1) rfl rfl ?_
    refine es_if rfl 46 rfl ⟨by omega, by omega⟩ (fun (g29 : ¬ (1 : Int) = (0 : Int)) => ?_) (fun (g29 : ¬ (¬ (1 : Int) = (0 : Int))) => absurd g29 (by decide))
    refine es_s0 1 (pc' := 47) (ls' := [some (aR 20 (0 : Int)), some (aI r), some (aI p)]) (st' := [aI (0 : Int)]) (S' := su S 20 0 0 1) rfl ?_
    refine es_iret rfl rfl rfl (Or.inr ⟨rfl, (by decide)⟩) ?_
    first | exact t1 (by omega) | (exfalso; omega)
theorem n123 {G : Gw} {S : Sg} {k : Nat} {Q : AQ} (hnp : 0 ≤ S 20 0 1 ∧ S 20 0 1 ≤ 60) {p w : Int} (hp : r32 p) (hw : r32 w) (t1 : ¬ ((0 ≤ p ∧ p < S 20 0 1) ∧ 0 ≤ w ∧ w < 6) → Q (.inl (some (aL 0))) (su S 20 0 0 1)) (h0 : (0 ≤ p ∧ p < S 20 0 1) ∧ w = 0 → Q (.inl (some (aL (S 24 0 p)))) (su S 20 0 0 0)) (h1 : (0 ≤ p ∧ p < S 20 0 1) ∧ w = 1 → Q (.inl (some (aL (S 25 0 p)))) (su S 20 0 0 0)) (h2 : (0 ≤ p ∧ p < S 20 0 1) ∧ w = 2 → Q (.inl (some (aL (S 26 0 p)))) (su S 20 0 0 0)) (h3 : (0 ≤ p ∧ p < S 20 0 1) ∧ w = 3 → Q (.inl (some (aL (S 27 0 p)))) (su S 20 0 0 0)) (h4 : (0 ≤ p ∧ p < S 20 0 1) ∧ w = 4 → Q (.inl (some (aL (S 28 0 p)))) (su S 20 0 0 0)) (h5 : (0 ≤ p ∧ p < S 20 0 1) ∧ w = 5 → Q (.inl (some (aL (S 29 0 p)))) (su S 20 0 0 0)) : Es G 123 0 (aEnt 3 [aR 20 (0 : Int), aI p, aI w]) [] S (k + 1) Q := by
  refine es_rg (fun hgz => ?_)
  have hz : 0 ≤ p ∧ p < 60 → S 29 0 p = 0 ∨ S 29 0 p = 1 := fun q => rgZ hgz (t := 29) (i := 0) (q := p) (by omega : (0 : Int) ≤ 0 ∧ (0 : Int) < 1) (by omega) rfl
  refine es_rg (fun hg1 => ?_)
  refine es_s0 3 (pc' := 3) (ls' := [some (aR 20 (0 : Int)), some (aI p), some (aI w)]) (st' := [aI p, aR 20 (0 : Int), aR 20 (0 : Int)]) (S' := S) rfl ?_
  refine es_callV rfl rfl 20 (0 : Int) [aI p] [aR 20 (0 : Int)] rfl rfl rfl rfl (Nat.le_of_ble_eq_true rfl) (Nat.le_of_ble_eq_true rfl) (Nat.le_of_ble_eq_true rfl) ?_
  refine n26 (S := S) (n := p) (by assumption) (fun hc3 => ?_) (fun hc3 => ?_)
  · show Es G 123 6 [some (aR 20 (0 : Int)), some (aI p), some (aI w)] [aI (1 : Int), aR 20 (0 : Int)] S _ _
    refine es_if rfl 23 rfl ⟨by decide, by decide⟩ (fun (g6 : (1 : Int) = (0 : Int)) => absurd g6 (by decide)) (fun (g6 : ¬ ((1 : Int) = (0 : Int))) => ?_)
    refine es_s0 1 (pc' := 10) (ls' := [some (aR 20 (0 : Int)), some (aI p), some (aI w)]) (st' := [aI w, aR 20 (0 : Int)]) (S' := S) rfl ?_
    refine es_if rfl 23 rfl (by assumption) (fun (g10 : w < (0 : Int)) => ?_) (fun (g10 : ¬ (w < (0 : Int))) => ?_)
    · refine es_sg 2 (p := ((0 : Int) = 0) ∧ (r32 (1 : Int))) (pc' := 27) (ls' := [some (aR 20 (0 : Int)), some (aI p), some (aI w)]) (st' := []) (S' := su S 20 0 0 1) rfl ⟨rfl, ⟨by decide, by decide⟩⟩ ?_
      refine es_rg (fun hg2 => ?_)
      refine es_sg 2 (p := (0 : Int) = 0) (pc' := 31) (ls' := [some (aR 20 (0 : Int)), some (aI p), some (aI w)]) (st' := [aI (1 : Int)]) (S' := su S 20 0 0 1) rfl rfl ?_
      refine es_if rfl 36 rfl ⟨by omega, by omega⟩ (fun (g31 : (1 : Int) = (0 : Int)) => absurd g31 (by decide)) (fun (g31 : ¬ ((1 : Int) = (0 : Int))) => ?_)
      refine es_s0 1 (pc' := 35) (ls' := [some (aR 20 (0 : Int)), some (aI p), some (aI w)]) (st' := [aL (0 : Int)]) (S' := su S 20 0 0 1) rfl ?_
      refine es_lret rfl ?_
      exact t1 (by omega)
    · refine es_s0 2 (pc' := 16) (ls' := [some (aR 20 (0 : Int)), some (aI p), some (aI w)]) (st' := [aI (6 : Int), aI w, aR 20 (0 : Int)]) (S' := S) rfl ?_
      refine es_icmp rfl 23 rfl (by assumption) ⟨by decide, by decide⟩ (fun (g16 : (6 : Int) ≤ w) => ?_) (fun (g16 : ¬ ((6 : Int) ≤ w)) => ?_)
      · refine es_sg 2 (p := ((0 : Int) = 0) ∧ (r32 (1 : Int))) (pc' := 27) (ls' := [some (aR 20 (0 : Int)), some (aI p), some (aI w)]) (st' := []) (S' := su S 20 0 0 1) rfl ⟨rfl, ⟨by decide, by decide⟩⟩ ?_
        refine es_rg (fun hg3 => ?_)
        refine es_sg 2 (p := (0 : Int) = 0) (pc' := 31) (ls' := [some (aR 20 (0 : Int)), some (aI p), some (aI w)]) (st' := [aI (1 : Int)]) (S' := su S 20 0 0 1) rfl rfl ?_
        refine es_if rfl 36 rfl ⟨by omega, by omega⟩ (fun (g31 : (1 : Int) = (0 : Int)) => absurd g31 (by decide)) (fun (g31 : ¬ ((1 : Int) = (0 : Int))) => ?_)
        refine es_s0 1 (pc' := 35) (ls' := [some (aR 20 (0 : Int)), some (aI p), some (aI w)]) (st' := [aL (0 : Int)]) (S' := su S 20 0 0 1) rfl ?_
        refine es_lret rfl ?_
        exact t1 (by omega)
      · refine es_sg 3 (p := ((0 : Int) = 0) ∧ (r32 (0 : Int))) (pc' := 27) (ls' := [some (aR 20 (0 : Int)), some (aI p), some (aI w)]) (st' := []) (S' := su S 20 0 0 0) rfl ⟨rfl, ⟨by decide, by decide⟩⟩ ?_
        refine es_rg (fun hg4 => ?_)
        refine es_sg 2 (p := (0 : Int) = 0) (pc' := 31) (ls' := [some (aR 20 (0 : Int)), some (aI p), some (aI w)]) (st' := [aI (0 : Int)]) (S' := su S 20 0 0 0) rfl rfl ?_
        refine es_if rfl 36 rfl ⟨by omega, by omega⟩ (fun (g31 : (0 : Int) = (0 : Int)) => ?_) (fun (g31 : ¬ ((0 : Int) = (0 : Int))) => absurd g31 (by decide))
        refine es_s0 1 (pc' := 37) (ls' := [some (aR 20 (0 : Int)), some (aI p), some (aI w)]) (st' := [aI w]) (S' := su S 20 0 0 0) rfl ?_
        refine es_ts rfl (by assumption) (fun (g37 : w < 0 ∨ 4 < w) => ⟨110, rfl, ?_⟩) (fun n hn hb => ?_)
        · refine es_sg 4 (p := ((0 : Int) = 0) ∧ (((0 : Int) = 0) ∧ (0 ≤ p ∧ p < 60))) (pc' := 116) (ls' := [some (aR 20 (0 : Int)), some (aI p), some (aI w)]) (st' := [aI (S 29 0 p)]) (S' := su S 20 0 0 0) rfl ⟨rfl, ⟨rfl, (by omega)⟩⟩ ?_
          refine es_if rfl 123 rfl (r32_z (rgZ hg1 (t := 29) (i := (0 : Int)) (q := p) (by omega : 0 ≤ (0 : Int) ∧ (0 : Int) < 1) (by omega) rfl)) (fun (g116 : (S 29 0 p) = (0 : Int)) => ?_) (fun (g116 : ¬ ((S 29 0 p) = (0 : Int))) => ?_)
          · refine es_s0 1 (pc' := 124) (ls' := [some (aR 20 (0 : Int)), some (aI p), some (aI w)]) (st' := [aL (0 : Int)]) (S' := su S 20 0 0 0) rfl ?_
            refine es_lret rfl ?_
            first | exact h0 (by omega) | exact h1 (by omega) | exact h2 (by omega) | exact h3 (by omega) | exact h4 (by omega) | (have e := h5 (by omega); rw [show S 29 0 p = 1 from by omega] at e; exact e) | (have e := h5 (by omega); rw [show S 29 0 p = 0 from by omega] at e; exact e) | (exfalso; omega)
          · refine es_s0 2 (pc' := 124) (ls' := [some (aR 20 (0 : Int)), some (aI p), some (aI w)]) (st' := [aL (1 : Int)]) (S' := su S 20 0 0 0) rfl ?_
            refine es_lret rfl ?_
            first | exact h0 (by omega) | exact h1 (by omega) | exact h2 (by omega) | exact h3 (by omega) | exact h4 (by omega) | (have e := h5 (by omega); rw [show S 29 0 p = 1 from by omega] at e; exact e) | (have e := h5 (by omega); rw [show S 29 0 p = 0 from by omega] at e; exact e) | (exfalso; omega)
        · match n, hn with
          | 0, hn =>
            have g37 : w = 0 := by simpa using hn
            refine ⟨35, 72, rfl, rfl, ?_⟩
            refine es_sg 4 (p := ((0 : Int) = 0) ∧ (((0 : Int) = 0) ∧ (0 ≤ p ∧ p < 60))) (pc' := 78) (ls' := [some (aR 20 (0 : Int)), some (aI p), some (aI w)]) (st' := [aL (S 24 0 p)]) (S' := su S 20 0 0 0) rfl ⟨rfl, ⟨rfl, (by omega)⟩⟩ ?_
            refine es_lret rfl ?_
            first | exact h0 (by omega) | exact h1 (by omega) | exact h2 (by omega) | exact h3 (by omega) | exact h4 (by omega) | (have e := h5 (by omega); rw [show S 29 0 p = 1 from by omega] at e; exact e) | (have e := h5 (by omega); rw [show S 29 0 p = 0 from by omega] at e; exact e) | (exfalso; omega)
          | 1, hn =>
            have g37 : w = 1 := by simpa using hn
            refine ⟨42, 79, rfl, rfl, ?_⟩
            refine es_sg 4 (p := ((0 : Int) = 0) ∧ (((0 : Int) = 0) ∧ (0 ≤ p ∧ p < 60))) (pc' := 85) (ls' := [some (aR 20 (0 : Int)), some (aI p), some (aI w)]) (st' := [aL (S 25 0 p)]) (S' := su S 20 0 0 0) rfl ⟨rfl, ⟨rfl, (by omega)⟩⟩ ?_
            refine es_lret rfl ?_
            first | exact h0 (by omega) | exact h1 (by omega) | exact h2 (by omega) | exact h3 (by omega) | exact h4 (by omega) | (have e := h5 (by omega); rw [show S 29 0 p = 1 from by omega] at e; exact e) | (have e := h5 (by omega); rw [show S 29 0 p = 0 from by omega] at e; exact e) | (exfalso; omega)
          | 2, hn =>
            have g37 : w = 2 := by simpa using hn
            refine ⟨49, 86, rfl, rfl, ?_⟩
            refine es_sg 5 (p := ((0 : Int) = 0) ∧ ((((0 : Int) = 0) ∧ (0 ≤ p ∧ p < 60)) ∧ (r32 (S 26 0 p)))) (pc' := 93) (ls' := [some (aR 20 (0 : Int)), some (aI p), some (aI w)]) (st' := [aL (S 26 0 p)]) (S' := su S 20 0 0 0) rfl ⟨rfl, ⟨rfl, (by omega)⟩, (rgI hg1 (t := 26) (i := (0 : Int)) (q := p) (by omega : 0 ≤ (0 : Int) ∧ (0 : Int) < 1) (by omega) rfl)⟩ ?_
            refine es_lret rfl ?_
            first | exact h0 (by omega) | exact h1 (by omega) | exact h2 (by omega) | exact h3 (by omega) | exact h4 (by omega) | (have e := h5 (by omega); rw [show S 29 0 p = 1 from by omega] at e; exact e) | (have e := h5 (by omega); rw [show S 29 0 p = 0 from by omega] at e; exact e) | (exfalso; omega)
          | 3, hn =>
            have g37 : w = 3 := by simpa using hn
            refine ⟨57, 94, rfl, rfl, ?_⟩
            refine es_sg 5 (p := ((0 : Int) = 0) ∧ ((((0 : Int) = 0) ∧ (0 ≤ p ∧ p < 60)) ∧ (r32 (S 27 0 p)))) (pc' := 101) (ls' := [some (aR 20 (0 : Int)), some (aI p), some (aI w)]) (st' := [aL (S 27 0 p)]) (S' := su S 20 0 0 0) rfl ⟨rfl, ⟨rfl, (by omega)⟩, (rgI hg1 (t := 27) (i := (0 : Int)) (q := p) (by omega : 0 ≤ (0 : Int) ∧ (0 : Int) < 1) (by omega) rfl)⟩ ?_
            refine es_lret rfl ?_
            first | exact h0 (by omega) | exact h1 (by omega) | exact h2 (by omega) | exact h3 (by omega) | exact h4 (by omega) | (have e := h5 (by omega); rw [show S 29 0 p = 1 from by omega] at e; exact e) | (have e := h5 (by omega); rw [show S 29 0 p = 0 from by omega] at e; exact e) | (exfalso; omega)
          | 4, hn =>
            have g37 : w = 4 := by simpa using hn
            refine ⟨65, 102, rfl, rfl, ?_⟩
            refine es_sg 5 (p := ((0 : Int) = 0) ∧ ((((0 : Int) = 0) ∧ (0 ≤ p ∧ p < 60)) ∧ (r32 (S 28 0 p)))) (pc' := 109) (ls' := [some (aR 20 (0 : Int)), some (aI p), some (aI w)]) (st' := [aL (S 28 0 p)]) (S' := su S 20 0 0 0) rfl ⟨rfl, ⟨rfl, (by omega)⟩, (rgI hg1 (t := 28) (i := (0 : Int)) (q := p) (by omega : 0 ≤ (0 : Int) ∧ (0 : Int) < 1) (by omega) rfl)⟩ ?_
            refine es_lret rfl ?_
            first | exact h0 (by omega) | exact h1 (by omega) | exact h2 (by omega) | exact h3 (by omega) | exact h4 (by omega) | (have e := h5 (by omega); rw [show S 29 0 p = 1 from by omega] at e; exact e) | (have e := h5 (by omega); rw [show S 29 0 p = 0 from by omega] at e; exact e) | (exfalso; omega)
          | n + 5, hn => exact absurd hb (by omega)
  · show Es G 123 6 [some (aR 20 (0 : Int)), some (aI p), some (aI w)] [aI (0 : Int), aR 20 (0 : Int)] S _ _
    refine es_if rfl 23 rfl ⟨by decide, by decide⟩ (fun (g6 : (0 : Int) = (0 : Int)) => ?_) (fun (g6 : ¬ ((0 : Int) = (0 : Int))) => absurd g6 (by decide))
    refine es_sg 2 (p := ((0 : Int) = 0) ∧ (r32 (1 : Int))) (pc' := 27) (ls' := [some (aR 20 (0 : Int)), some (aI p), some (aI w)]) (st' := []) (S' := su S 20 0 0 1) rfl ⟨rfl, ⟨by decide, by decide⟩⟩ ?_
    refine es_rg (fun hg5 => ?_)
    refine es_sg 2 (p := (0 : Int) = 0) (pc' := 31) (ls' := [some (aR 20 (0 : Int)), some (aI p), some (aI w)]) (st' := [aI (1 : Int)]) (S' := su S 20 0 0 1) rfl rfl ?_
    refine es_if rfl 36 rfl ⟨by omega, by omega⟩ (fun (g31 : (1 : Int) = (0 : Int)) => absurd g31 (by decide)) (fun (g31 : ¬ ((1 : Int) = (0 : Int))) => ?_)
    refine es_s0 1 (pc' := 35) (ls' := [some (aR 20 (0 : Int)), some (aI p), some (aI w)]) (st' := [aL (0 : Int)]) (S' := su S 20 0 0 1) rfl ?_
    refine es_lret rfl ?_
    exact t1 (by omega)
