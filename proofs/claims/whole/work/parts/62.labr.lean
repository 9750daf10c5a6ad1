/-! THE REFERENCE: labels -/
theorem n109 {G : Gw} {S : Sg} {k : Nat} {Q : AQ} {ax ay aw ah bx b2 bw bh : Int} (hb : (-5000000 ≤ ax ∧ ax ≤ 5000000) ∧ (-5000000 ≤ ay ∧ ay ≤ 5000000) ∧ (-5000000 ≤ aw ∧ aw ≤ 5000000) ∧ (-5000000 ≤ ah ∧ ah ≤ 5000000) ∧ (-5000000 ≤ bx ∧ bx ≤ 5000000) ∧ (-5000000 ≤ b2 ∧ b2 ≤ 5000000) ∧ (-5000000 ≤ bw ∧ bw ≤ 5000000) ∧ (-5000000 ≤ bh ∧ bh ≤ 5000000)) (h1 : ((ax < bx + bw ∧ bx < ax + aw) ∧ (ay < b2 + bh ∧ b2 < ay + ah)) → Q (.inl (some (aI 1))) S) (h0 : ¬ ((ax < bx + bw ∧ bx < ax + aw) ∧ (ay < b2 + bh ∧ b2 < ay + ah)) → Q (.inl (some (aI 0))) S) : Es G 109 0 (aEnt 16 [aL ax, aL ay, aL aw, aL ah, aL bx, aL b2, aL bw, aL bh]) [] S (k + 0) Q := by
  refine es_rg (fun hg1 => ?_)
  refine es_s0 4 (pc' := 6) (ls' := [some (aL ax), none, some (aL ay), none, some (aL aw), none, some (aL ah), none, some (aL bx), none, some (aL b2), none, some (aL bw), none, some (aL bh), none]) (st' := [aL (bx + bw), aL ax]) (S' := S) rfl ?_
  refine es_lif rfl rfl 44 rfl ⟨by omega, by omega⟩ ⟨by omega, by omega⟩ (fun (g6 : (bx + bw) ≤ ax) => ?_) (fun (g6 : ¬ ((bx + bw) ≤ ax)) => ?_)
  · refine es_s0 1 (pc' := 45) (ls' := [some (aL ax), none, some (aL ay), none, some (aL aw), none, some (aL ah), none, some (aL bx), none, some (aL b2), none, some (aL bw), none, some (aL bh), none]) (st' := [aI (0 : Int)]) (S' := S) rfl ?_
    refine es_iret rfl rfl rfl (Or.inr ⟨rfl, (by decide)⟩) ?_
    first | exact h1 (by omega) | exact h0 (by omega) | (exfalso; omega)
  · refine es_s0 4 (pc' := 16) (ls' := [some (aL ax), none, some (aL ay), none, some (aL aw), none, some (aL ah), none, some (aL bx), none, some (aL b2), none, some (aL bw), none, some (aL bh), none]) (st' := [aL (ax + aw), aL bx]) (S' := S) rfl ?_
    refine es_lif rfl rfl 44 rfl ⟨by omega, by omega⟩ ⟨by omega, by omega⟩ (fun (g16 : (ax + aw) ≤ bx) => ?_) (fun (g16 : ¬ ((ax + aw) ≤ bx)) => ?_)
    · refine es_s0 1 (pc' := 45) (ls' := [some (aL ax), none, some (aL ay), none, some (aL aw), none, some (aL ah), none, some (aL bx), none, some (aL b2), none, some (aL bw), none, some (aL bh), none]) (st' := [aI (0 : Int)]) (S' := S) rfl ?_
      refine es_iret rfl rfl rfl (Or.inr ⟨rfl, (by decide)⟩) ?_
      first | exact h1 (by omega) | exact h0 (by omega) | (exfalso; omega)
    · refine es_s0 4 (pc' := 26) (ls' := [some (aL ax), none, some (aL ay), none, some (aL aw), none, some (aL ah), none, some (aL bx), none, some (aL b2), none, some (aL bw), none, some (aL bh), none]) (st' := [aL (b2 + bh), aL ay]) (S' := S) rfl ?_
      refine es_lif rfl rfl 44 rfl ⟨by omega, by omega⟩ ⟨by omega, by omega⟩ (fun (g26 : (b2 + bh) ≤ ay) => ?_) (fun (g26 : ¬ ((b2 + bh) ≤ ay)) => ?_)
      · refine es_s0 1 (pc' := 45) (ls' := [some (aL ax), none, some (aL ay), none, some (aL aw), none, some (aL ah), none, some (aL bx), none, some (aL b2), none, some (aL bw), none, some (aL bh), none]) (st' := [aI (0 : Int)]) (S' := S) rfl ?_
        refine es_iret rfl rfl rfl (Or.inr ⟨rfl, (by decide)⟩) ?_
        first | exact h1 (by omega) | exact h0 (by omega) | (exfalso; omega)
      · refine es_s0 4 (pc' := 36) (ls' := [some (aL ax), none, some (aL ay), none, some (aL aw), none, some (aL ah), none, some (aL bx), none, some (aL b2), none, some (aL bw), none, some (aL bh), none]) (st' := [aL (ay + ah), aL b2]) (S' := S) rfl ?_
        refine es_lif rfl rfl 44 rfl ⟨by omega, by omega⟩ ⟨by omega, by omega⟩ (fun (g36 : (ay + ah) ≤ b2) => ?_) (fun (g36 : ¬ ((ay + ah) ≤ b2)) => ?_)
        · refine es_s0 1 (pc' := 45) (ls' := [some (aL ax), none, some (aL ay), none, some (aL aw), none, some (aL ah), none, some (aL bx), none, some (aL b2), none, some (aL bw), none, some (aL bh), none]) (st' := [aI (0 : Int)]) (S' := S) rfl ?_
          refine es_iret rfl rfl rfl (Or.inr ⟨rfl, (by decide)⟩) ?_
          first | exact h1 (by omega) | exact h0 (by omega) | (exfalso; omega)
        · refine es_s0 2 (pc' := 45) (ls' := [some (aL ax), none, some (aL ay), none, some (aL aw), none, some (aL ah), none, some (aL bx), none, some (aL b2), none, some (aL bw), none, some (aL bh), none]) (st' := [aI (1 : Int)]) (S' := S) rfl ?_
          refine es_iret rfl rfl rfl (Or.inr ⟨rfl, (by decide)⟩) ?_
          first | exact h1 (by omega) | exact h0 (by omega) | (exfalso; omega)
theorem mtP_s {W : Sg} {p s q t : Int} : mtP W p s q t ↔ mtP W q t p s := by
  unfold mtP
  constructor
  · intro h; exact ⟨⟨h.1.2, h.1.1⟩, ⟨h.2.2, h.2.1⟩⟩
  · intro h; exact ⟨⟨h.1.2, h.1.1⟩, ⟨h.2.2, h.2.1⟩⟩
/-- all but the corners is kept -/
def Kq (S S' : Sg) : Prop := ∀ t : Nat, t ≠ 49 → t ≠ 50 → S' t = S t
theorem RR.of {A S S' : Sg} (h : RR A S) (g : ∀ t : Nat, 20 ≤ t → t < 46 → S' t = S t) : RR A S' := by
  have e20 := g 20 (by decide) (by decide)
  have e22 := g 22 (by decide) (by decide)
  have e23 := g 23 (by decide) (by decide)
  have e24 := g 24 (by decide) (by decide)
  have e25 := g 25 (by decide) (by decide)
  have e26 := g 26 (by decide) (by decide)
  have e27 := g 27 (by decide) (by decide)
  have e28 := g 28 (by decide) (by decide)
  have e29 := g 29 (by decide) (by decide)
  have e31 := g 31 (by decide) (by decide)
  have e32 := g 32 (by decide) (by decide)
  have e33 := g 33 (by decide) (by decide)
  have e34 := g 34 (by decide) (by decide)
  have e35 := g 35 (by decide) (by decide)
  have e36 := g 36 (by decide) (by decide)
  have e38 := g 38 (by decide) (by decide)
  have e39 := g 39 (by decide) (by decide)
  have e40 := g 40 (by decide) (by decide)
  have e41 := g 41 (by decide) (by decide)
  have e42 := g 42 (by decide) (by decide)
  simp only [RR, RRn, RRp, RRq, RRc, RRt, RRr, RRl, e20, e22, e23, e24, e25, e26, e27, e28, e29, e31, e32, e33, e34, e35, e36, e38, e39, e40, e41, e42] at h ⊢
  exact h
/-- what the reference's store says of a label -/
theorem RR.lb {W S : Sg} {p v q : Int} (h : RR (su W 1 p 11 v) S) (hq : 0 ≤ q ∧ q < 60) (hl : W 1 q 8 = 1) : S 40 0 q = W 1 q 9 ∧ S 41 0 q = W 1 q 10 ∧ (¬ q = p → S 42 0 q = W 1 q 11) := by
  obtain ⟨a, b⟩ := h.2.2.2.2.2.2 q hq.1 hq.2
  replace a : S 40 0 q = (if W 1 q 8 = 1 then W 1 q 9 else 0) := a
  rw [if_pos hl] at a
  obtain ⟨b1, b2⟩ := b hl
  refine ⟨a, b1, fun e => ?_⟩
  rw [su_eq, if_neg e] at b2
  exact b2
theorem RR.lb0 {W S : Sg} {p v q : Int} (h : RR (su W 1 p 11 v) S) (hq : 0 ≤ q ∧ q < 60) (hl : ¬ W 1 q 8 = 1) : S 40 0 q = 0 := by
  obtain ⟨a, b⟩ := h.2.2.2.2.2.2 q hq.1 hq.2
  replace a : S 40 0 q = (if W 1 q 8 = 1 then W 1 q 9 else 0) := a
  rw [if_neg hl] at a
  exact a
theorem RR.pl {W S : Sg} {p v i : Int} (h : RR (su W 1 p 11 v) S) (hi : 0 ≤ i ∧ i < 60) : S 24 0 i = W 1 i 2 ∧ S 25 0 i = W 1 i 3 ∧ S 26 0 i = W 1 i 4 ∧ rW S i = pW W i ∧ rH S i = pH W i := by
  have a := h.2.1 i hi.1 hi.2
  have b := rWH h hi
  exact ⟨a.2.2.1, a.2.2.2.1, a.2.2.2.2.1, b.1, b.2⟩
theorem n110_b {G : Gw} {S : Sg} {k : Nat} {Q : AQ} {W : Sg} {p v nn : Int} {d : Int → Int} (hW : WI W) (hnn : nn = labC W) (hR : RR (su W 1 p 11 v) S) (hO : ∀ l, 0 ≤ l → l < nn → S 46 0 l = ow W l) {l q : Int} (hl : 0 ≤ l ∧ l < nn) (hq : q = ow W l) (hc : ∀ j, 0 ≤ j → j ≤ l → S 49 0 j = lbX W (ow W j) (d j) ∧ S 50 0 j = lbY W (ow W j) (d j)) (h : (∀ j, 0 ≤ j → j < l → ¬ mtL W j (d j) l (d l)) → ∀ o4 o5 : Option AV, Es G 110 2 [some (aR 20 (0 : Int)), some (aI nn), some (aI (l + 1)), some (aI q), o4, o5] [] S (k + 1) Q) (h0 : ∀ j, 0 ≤ j → j < l → mtL W j (d j) l (d l) → Q (.inl (some (aI 0))) S) : ∀ (n : Nat) (j : Int) (o : Option AV) (_ : 0 ≤ j) (_ : j + n = l) (_ : ∀ i, 0 ≤ i → i < j → ¬ mtL W i (d i) l (d l)), Es G 110 127 [some (aR 20 (0 : Int)), some (aI nn), some (aI l), some (aI q), some (aI j), o] [] S (k + 1) Q := by
  intro n
  induction n using Nat.strongRecOn with
  | _ n ih =>
    intro j o hj hn hm
    have h5 := hW.2.2.2
    have h05 := hW.1
    have ol := hW.ow (l := l) hl.1 (by omega)
    refine es_rg (fun hg1 => ?_)
    refine es_s0 2 (pc' := 130) (ls' := [some (aR 20 (0 : Int)), some (aI nn), some (aI l), some (aI q), some (aI j), o]) (st' := [aI l, aI j]) (S' := S) rfl ?_
    refine es_icmp rfl 208 rfl ⟨by omega, by omega⟩ ⟨by omega, by omega⟩ (fun (g130 : l ≤ j) => ?_) (fun (g130 : ¬ (l ≤ j)) => ?_)
    · refine es_s0 2 (pc' := 2) (ls' := [some (aR 20 (0 : Int)), some (aI nn), some (aI (l + 1)), some (aI q), some (aI j), o]) (st' := []) (S' := S) rfl ?_
      exact h (fun i i0 i1 => hm i i0 (by omega)) _ _
    · have oj := hW.ow (l := j) hj (by omega)
      have ejo := hO j hj (by omega)
      have c1 := hc l (by omega) (by omega)
      have c2 := hc j (by omega) (by omega)
      have a1 := hR.lb (q := ow W l) (by omega) ol.2.1
      have a2 := hR.lb (q := ow W j) (by omega) oj.2.1
      have w1 := hW.2.1 (ow W l) ol.1.1 (by omega)
      have w2 := hW.2.1 (ow W j) oj.1.1 (by omega)
      have u1 := (w1.2 ol.2.1).1
      have u2 := (w2.2 oj.2.1).1
      have b1 := lb_b (s := d l) w1.1 u1
      have b2 := lb_b (s := d j) w2.1 u2
      unfold okLb at u1 u2
      rw [← hq] at a1 u1 b1 c1
      rw [← ejo] at a2 u2 b2 c2
      have e1 : mtL W j (d j) l (d l) ↔ mtP W q (d l) (S 46 0 j) (d j) := by unfold mtL; rw [mtP_s, ← hq, ← ejo]
      unfold mtP at e1
      have oj1 := oj.1
      rw [← ejo] at oj1
      refine es_sg 6 (p := ((0 : Int) = 0) ∧ (((0 : Int) = 0) ∧ (0 ≤ j ∧ j < 5))) (pc' := 143) (ls' := [some (aR 20 (0 : Int)), some (aI nn), some (aI l), some (aI q), some (aI j), some (aI (S 46 0 j))]) (st' := [aR 20 (0 : Int)]) (S' := S) rfl ⟨rfl, ⟨rfl, (by omega)⟩⟩ ?_
      refine es_sg 6 (p := ((0 : Int) = 0) ∧ ((((0 : Int) = 0) ∧ (0 ≤ l ∧ l < 5)) ∧ ((0 : Int) = 0))) (pc' := 153) (ls' := [some (aR 20 (0 : Int)), some (aI nn), some (aI l), some (aI q), some (aI j), some (aI (S 46 0 j))]) (st' := [aI l, aR 50 (0 : Int), aL (S 49 0 l)]) (S' := S) rfl ⟨rfl, ⟨rfl, (by omega)⟩, rfl⟩ ?_
      refine es_sg 6 (p := (((0 : Int) = 0) ∧ (0 ≤ l ∧ l < 5)) ∧ (((0 : Int) = 0) ∧ (((0 : Int) = 0) ∧ (0 ≤ q ∧ q < 60)))) (pc' := 161) (ls' := [some (aR 20 (0 : Int)), some (aI nn), some (aI l), some (aI q), some (aI j), some (aI (S 46 0 j))]) (st' := [aR 20 (0 : Int), aL (S 40 0 q), aL (S 50 0 l), aL (S 49 0 l)]) (S' := S) rfl ⟨⟨rfl, (by omega)⟩, rfl, ⟨rfl, (by omega)⟩⟩ ?_
      refine es_sg 6 (p := ((0 : Int) = 0) ∧ ((((0 : Int) = 0) ∧ (0 ≤ q ∧ q < 60)) ∧ ((0 : Int) = 0))) (pc' := 172) (ls' := [some (aR 20 (0 : Int)), some (aI nn), some (aI l), some (aI q), some (aI j), some (aI (S 46 0 j))]) (st' := [aI j, aR 49 (0 : Int), aL (S 41 0 q), aL (S 40 0 q), aL (S 50 0 l), aL (S 49 0 l)]) (S' := S) rfl ⟨rfl, ⟨rfl, (by omega)⟩, rfl⟩ ?_
      refine es_sg 6 (p := (((0 : Int) = 0) ∧ (0 ≤ j ∧ j < 5)) ∧ (((0 : Int) = 0) ∧ (((0 : Int) = 0) ∧ (0 ≤ j ∧ j < 5)))) (pc' := 181) (ls' := [some (aR 20 (0 : Int)), some (aI nn), some (aI l), some (aI q), some (aI j), some (aI (S 46 0 j))]) (st' := [aR 20 (0 : Int), aL (S 50 0 j), aL (S 49 0 j), aL (S 41 0 q), aL (S 40 0 q), aL (S 50 0 l), aL (S 49 0 l)]) (S' := S) rfl ⟨⟨rfl, (by omega)⟩, rfl, ⟨rfl, (by omega)⟩⟩ ?_
      refine es_sg 6 (p := ((0 : Int) = 0) ∧ ((((0 : Int) = 0) ∧ (0 ≤ (S 46 0 j) ∧ (S 46 0 j) < 60)) ∧ ((0 : Int) = 0))) (pc' := 193) (ls' := [some (aR 20 (0 : Int)), some (aI nn), some (aI l), some (aI q), some (aI j), some (aI (S 46 0 j))]) (st' := [aI (S 46 0 j), aR 41 (0 : Int), aL (S 40 0 (S 46 0 j)), aL (S 50 0 j), aL (S 49 0 j), aL (S 41 0 q), aL (S 40 0 q), aL (S 50 0 l), aL (S 49 0 l)]) (S' := S) rfl ⟨rfl, ⟨rfl, (by omega)⟩, rfl⟩ ?_
      refine es_sg 1 (p := ((0 : Int) = 0) ∧ (0 ≤ (S 46 0 j) ∧ (S 46 0 j) < 60)) (pc' := 194) (ls' := [some (aR 20 (0 : Int)), some (aI nn), some (aI l), some (aI q), some (aI j), some (aI (S 46 0 j))]) (st' := [aL (S 41 0 (S 46 0 j)), aL (S 40 0 (S 46 0 j)), aL (S 50 0 j), aL (S 49 0 j), aL (S 41 0 q), aL (S 40 0 q), aL (S 50 0 l), aL (S 49 0 l)]) (S' := S) rfl ⟨rfl, (by omega)⟩ ?_
      refine es_callS rfl rfl [aL (S 49 0 l), aL (S 50 0 l), aL (S 40 0 q), aL (S 41 0 q), aL (S 49 0 j), aL (S 50 0 j), aL (S 40 0 (S 46 0 j)), aL (S 41 0 (S 46 0 j))] [] rfl rfl (Nat.le_of_ble_eq_true rfl) (Nat.le_of_ble_eq_true rfl) (Nat.le_of_ble_eq_true rfl) ?_
      refine n109 (S := S) (ax := (S 49 0 l)) (ay := (S 50 0 l)) (aw := (S 40 0 q)) (ah := (S 41 0 q)) (bx := (S 49 0 j)) (b2 := (S 50 0 j)) (bw := (S 40 0 (S 46 0 j))) (bh := (S 41 0 (S 46 0 j))) (by omega) (fun hc194 => ?_) (fun hc194 => ?_)
      · show Es G 110 197 [some (aR 20 (0 : Int)), some (aI nn), some (aI l), some (aI q), some (aI j), some (aI (S 46 0 j))] [aI (1 : Int)] S _ _
        refine es_if rfl 202 rfl ⟨by decide, by decide⟩ (fun (g197 : (1 : Int) = (0 : Int)) => absurd g197 (by decide)) (fun (g197 : ¬ ((1 : Int) = (0 : Int))) => ?_)
        refine es_s0 1 (pc' := 201) (ls' := [some (aR 20 (0 : Int)), some (aI nn), some (aI l), some (aI q), some (aI j), some (aI (S 46 0 j))]) (st' := [aI (0 : Int)]) (S' := S) rfl ?_
        refine es_iret rfl rfl rfl (Or.inr ⟨rfl, (by decide)⟩) ?_
        exact h0 j hj (by omega) (e1.mpr (by omega))
      · show Es G 110 197 [some (aR 20 (0 : Int)), some (aI nn), some (aI l), some (aI q), some (aI j), some (aI (S 46 0 j))] [aI (0 : Int)] S _ _
        refine es_if rfl 202 rfl ⟨by decide, by decide⟩ (fun (g197 : (0 : Int) = (0 : Int)) => ?_) (fun (g197 : ¬ ((0 : Int) = (0 : Int))) => absurd g197 (by decide))
        refine es_s0 2 (pc' := 127) (ls' := [some (aR 20 (0 : Int)), some (aI nn), some (aI l), some (aI q), some (aI (j + 1)), some (aI (S 46 0 j))]) (st' := []) (S' := S) rfl ?_
        exact ih (n - 1) (by omega) (j + 1) _ (by omega) (by omega) (fun i i0 i1 => by
          by_cases e : i = j
          · subst e; exact fun z => hc194 (by have := e1.mp z; omega)
          · exact hm i i0 (by omega))
theorem n110_a {G : Gw} {S : Sg} {k : Nat} {Q : AQ} {W : Sg} {p v nn : Int} {d : Int → Int} (hW : WI W) (hnn : nn = labC W) (hR : RR (su W 1 p 11 v) S) {l q : Int} (hl : 0 ≤ l ∧ l < nn) (hq : q = ow W l) (e49 : S 49 0 l = lbX W q (d l)) (e50 : S 50 0 l = lbY W q (d l)) (h : frL W l (d l) → ∀ o5 : Option AV, Es G 110 127 [some (aR 20 (0 : Int)), some (aI nn), some (aI l), some (aI q), some (aI (0 : Int)), o5] [] S (k + 1) Q) (h0 : ¬ frL W l (d l) → Q (.inl (some (aI 0))) S) : ∀ (n : Nat) (i : Int) (o : Option AV) (_ : 0 ≤ i) (_ : i + n = W 0 0 5) (_ : ∀ j, 0 ≤ j → j < i → ¬ fnP W q (d l) j), Es G 110 51 [some (aR 20 (0 : Int)), some (aI nn), some (aI l), some (aI q), some (aI i), o] [] S (k + 1) Q := by
  intro n
  induction n using Nat.strongRecOn with
  | _ n ih =>
    intro i o hi hn hm
    have h5 := hW.2.2.2
    have h05 := hW.1
    have ol := hW.ow (l := l) hl.1 (by omega)
    have e1 : S 20 0 1 = W 0 0 5 := hR.1.1
    have a1 := hR.lb (q := ow W l) (by omega) ol.2.1
    have w1 := hW.2.1 (ow W l) ol.1.1 (by omega)
    have u1 := (w1.2 ol.2.1).1
    have b1 := lb_b (s := d l) w1.1 u1
    unfold okLb at u1
    rw [← hq] at a1 u1 b1 ol
    refine es_rg (fun hg1 => ?_)
    refine es_sg 3 (p := (0 : Int) = 0) (pc' := 57) (ls' := [some (aR 20 (0 : Int)), some (aI nn), some (aI l), some (aI q), some (aI i), o]) (st' := [aI (S 20 0 1), aI i]) (S' := S) rfl rfl ?_
    refine es_icmp rfl 124 rfl ⟨by omega, by omega⟩ (rgI hg1 (t := 20) (i := (0 : Int)) (q := (1 : Int)) (by omega : 0 ≤ (0 : Int) ∧ (0 : Int) < 1) (by omega) rfl) (fun (g57 : (S 20 0 1) ≤ i) => ?_) (fun (g57 : ¬ ((S 20 0 1) ≤ i)) => ?_)
    · refine es_s0 2 (pc' := 127) (ls' := [some (aR 20 (0 : Int)), some (aI nn), some (aI l), some (aI q), some (aI (0 : Int)), o]) (st' := []) (S' := S) rfl ?_
      exact h (by unfold frL; rw [← hq]; exact fun j j0 j1 => hm j j0 (by omega)) _
    · have w2 := (hW.2.1 i hi (by omega)).1
      have p1 := hR.pl (i := i) (by omega)
      have hw := pW_b w2
      have hh := pH_b w2
      unfold okXY at w2
      refine es_sg 6 (p := ((0 : Int) = 0) ∧ ((((0 : Int) = 0) ∧ (0 ≤ l ∧ l < 5)) ∧ ((0 : Int) = 0))) (pc' := 70) (ls' := [some (aR 20 (0 : Int)), some (aI nn), some (aI l), some (aI q), some (aI i), o]) (st' := [aR 50 (0 : Int), aL (S 49 0 l)]) (S' := S) rfl ⟨rfl, ⟨rfl, (by omega)⟩, rfl⟩ ?_
      refine es_sg 6 (p := (((0 : Int) = 0) ∧ (0 ≤ l ∧ l < 5)) ∧ (((0 : Int) = 0) ∧ (((0 : Int) = 0) ∧ (0 ≤ q ∧ q < 60)))) (pc' := 78) (ls' := [some (aR 20 (0 : Int)), some (aI nn), some (aI l), some (aI q), some (aI i), o]) (st' := [aL (S 40 0 q), aL (S 50 0 l), aL (S 49 0 l)]) (S' := S) rfl ⟨⟨rfl, (by omega)⟩, rfl, ⟨rfl, (by omega)⟩⟩ ?_
      refine es_sg 6 (p := ((0 : Int) = 0) ∧ ((((0 : Int) = 0) ∧ (0 ≤ q ∧ q < 60)) ∧ ((0 : Int) = 0))) (pc' := 88) (ls' := [some (aR 20 (0 : Int)), some (aI nn), some (aI l), some (aI q), some (aI i), o]) (st' := [aR 24 (0 : Int), aL (S 41 0 q), aL (S 40 0 q), aL (S 50 0 l), aL (S 49 0 l)]) (S' := S) rfl ⟨rfl, ⟨rfl, (by omega)⟩, rfl⟩ ?_
      refine es_sg 6 (p := (((0 : Int) = 0) ∧ (0 ≤ i ∧ i < 60)) ∧ (((0 : Int) = 0) ∧ (((0 : Int) = 0) ∧ (0 ≤ i ∧ i < 60)))) (pc' := 98) (ls' := [some (aR 20 (0 : Int)), some (aI nn), some (aI l), some (aI q), some (aI i), o]) (st' := [aL (S 25 0 i), aL (S 24 0 i), aL (S 41 0 q), aL (S 40 0 q), aL (S 50 0 l), aL (S 49 0 l)]) (S' := S) rfl ⟨⟨rfl, (by omega)⟩, rfl, ⟨rfl, (by omega)⟩⟩ ?_
      refine es_s0 2 (pc' := 101) (ls' := [some (aR 20 (0 : Int)), some (aI nn), some (aI l), some (aI q), some (aI i), o]) (st' := [aI i, aR 20 (0 : Int), aL (S 25 0 i), aL (S 24 0 i), aL (S 41 0 q), aL (S 40 0 q), aL (S 50 0 l), aL (S 49 0 l)]) (S' := S) rfl ?_
      refine es_callV rfl rfl 20 (0 : Int) [aI i] [aL (S 25 0 i), aL (S 24 0 i), aL (S 41 0 q), aL (S 40 0 q), aL (S 50 0 l), aL (S 49 0 l)] rfl rfl rfl rfl (Nat.le_of_ble_eq_true rfl) (Nat.le_of_ble_eq_true rfl) (Nat.le_of_ble_eq_true rfl) ?_
      refine n57 (S := S) (i := i) (by omega) (by omega) ?_
      show Es G 110 104 [some (aR 20 (0 : Int)), some (aI nn), some (aI l), some (aI q), some (aI i), o] [aL (rW S i), aL (S 25 0 i), aL (S 24 0 i), aL (S 41 0 q), aL (S 40 0 q), aL (S 50 0 l), aL (S 49 0 l)] S _ _
      refine es_s0 2 (pc' := 107) (ls' := [some (aR 20 (0 : Int)), some (aI nn), some (aI l), some (aI q), some (aI i), o]) (st' := [aI i, aR 20 (0 : Int), aL (rW S i), aL (S 25 0 i), aL (S 24 0 i), aL (S 41 0 q), aL (S 40 0 q), aL (S 50 0 l), aL (S 49 0 l)]) (S' := S) rfl ?_
      refine es_callV rfl rfl 20 (0 : Int) [aI i] [aL (rW S i), aL (S 25 0 i), aL (S 24 0 i), aL (S 41 0 q), aL (S 40 0 q), aL (S 50 0 l), aL (S 49 0 l)] rfl rfl rfl rfl (Nat.le_of_ble_eq_true rfl) (Nat.le_of_ble_eq_true rfl) (Nat.le_of_ble_eq_true rfl) ?_
      refine n58 (S := S) (i := i) (by omega) (by omega) ?_
      show Es G 110 110 [some (aR 20 (0 : Int)), some (aI nn), some (aI l), some (aI q), some (aI i), o] [aL (rH S i), aL (rW S i), aL (S 25 0 i), aL (S 24 0 i), aL (S 41 0 q), aL (S 40 0 q), aL (S 50 0 l), aL (S 49 0 l)] S _ _
      refine es_callS rfl rfl [aL (S 49 0 l), aL (S 50 0 l), aL (S 40 0 q), aL (S 41 0 q), aL (S 24 0 i), aL (S 25 0 i), aL (rW S i), aL (rH S i)] [] rfl rfl (Nat.le_of_ble_eq_true rfl) (Nat.le_of_ble_eq_true rfl) (Nat.le_of_ble_eq_true rfl) ?_
      refine n109 (S := S) (ax := (S 49 0 l)) (ay := (S 50 0 l)) (aw := (S 40 0 q)) (ah := (S 41 0 q)) (bx := (S 24 0 i)) (b2 := (S 25 0 i)) (bw := (rW S i)) (bh := (rH S i)) (by omega) (fun hc110 => ?_) (fun hc110 => ?_)
      · show Es G 110 113 [some (aR 20 (0 : Int)), some (aI nn), some (aI l), some (aI q), some (aI i), o] [aI (1 : Int)] S _ _
        refine es_if rfl 118 rfl ⟨by decide, by decide⟩ (fun (g113 : (1 : Int) = (0 : Int)) => absurd g113 (by decide)) (fun (g113 : ¬ ((1 : Int) = (0 : Int))) => ?_)
        refine es_s0 1 (pc' := 117) (ls' := [some (aR 20 (0 : Int)), some (aI nn), some (aI l), some (aI q), some (aI i), o]) (st' := [aI (0 : Int)]) (S' := S) rfl ?_
        refine es_iret rfl rfl rfl (Or.inr ⟨rfl, (by decide)⟩) ?_
        exact h0 (fun z => by
          unfold frL at z
          rw [← hq] at z
          exact z i hi (by omega) (by unfold fnP; omega))
      · show Es G 110 113 [some (aR 20 (0 : Int)), some (aI nn), some (aI l), some (aI q), some (aI i), o] [aI (0 : Int)] S _ _
        refine es_if rfl 118 rfl ⟨by decide, by decide⟩ (fun (g113 : (0 : Int) = (0 : Int)) => ?_) (fun (g113 : ¬ ((0 : Int) = (0 : Int))) => absurd g113 (by decide))
        refine es_s0 2 (pc' := 51) (ls' := [some (aR 20 (0 : Int)), some (aI nn), some (aI l), some (aI q), some (aI (i + 1)), o]) (st' := []) (S' := S) rfl ?_
        exact ih (n - 1) (by omega) (i + 1) _ (by omega) (by omega) (fun j j0 j1 => by
          by_cases e : j = i
          · subst e; unfold fnP; omega
          · exact hm j j0 (by omega))
theorem n110_o {G : Gw} {S0 : Sg} {k : Nat} {Q : AQ} {W : Sg} {p v nn : Int} {d : Int → Int} (hW : WI W) (hnn : nn = labC W) (hR : RR (su W 1 p 11 v) S0) (hO : ∀ l, 0 ≤ l → l < nn → S0 46 0 l = ow W l) (hT : ∀ l, 0 ≤ l → l < nn → S0 47 0 l = d l) (hD : Dg d nn) (h1 : ∀ S' : Sg, Kq S0 S' → vW W nn d → Q (.inl (some (aI 1))) S') (h0 : ∀ S' : Sg, Kq S0 S' → ¬ vW W nn d → Q (.inl (some (aI 0))) S') : ∀ (n : Nat) (S : Sg) (l : Int) (o3 o4 o5 : Option AV) (_ : 0 ≤ l) (_ : l + n = nn) (_ : Kq S0 S) (_ : ∀ j, 0 ≤ j → j < l → S 49 0 j = lbX W (ow W j) (d j) ∧ S 50 0 j = lbY W (ow W j) (d j)) (_ : vW W l d), Es G 110 2 [some (aR 20 (0 : Int)), some (aI nn), some (aI l), o3, o4, o5] [] S (k + 2) Q := by
  intro n
  induction n using Nat.strongRecOn with
  | _ n ih =>
    intro S l o3 o4 o5 hl hn hK hc hV
    have h5 := hW.2.2.2
    have h05 := hW.1
    have hRS : RR (su W 1 p 11 v) S := hR.of (fun t a b => hK t (by omega) (by omega))
    refine es_rg (fun hg1 => ?_)
    refine es_s0 2 (pc' := 4) (ls' := [some (aR 20 (0 : Int)), some (aI nn), some (aI l), o3, o4, o5]) (st' := [aI nn, aI l]) (S' := S) rfl ?_
    refine es_icmp rfl 214 rfl ⟨by omega, by omega⟩ ⟨by omega, by omega⟩ (fun (g4 : nn ≤ l) => ?_) (fun (g4 : ¬ (nn ≤ l)) => ?_)
    · refine es_s0 1 (pc' := 215) (ls' := [some (aR 20 (0 : Int)), some (aI nn), some (aI l), o3, o4, o5]) (st' := [aI (1 : Int)]) (S' := S) rfl ?_
      refine es_iret rfl rfl rfl (Or.inr ⟨rfl, (by decide)⟩) ?_
      have e : l = nn := by omega
      subst e
      exact h1 S hK hV
    · have e46 : S 46 0 l = ow W l := by rw [hK 46 (by decide) (by decide)]; exact hO l hl (by omega)
      have e47 : S 47 0 l = d l := by rw [hK 47 (by decide) (by decide)]; exact hT l hl (by omega)
      have hd8 := hD l hl (by omega)
      have ol := hW.ow (l := l) hl (by omega)
      have w1 := hW.2.1 (ow W l) ol.1.1 (by omega)
      have u1 := (w1.2 ol.2.1).1
      have b1 := lb_b (s := d l) w1.1 u1
      have hx := w1.1
      have hlb := ol.2.1
      rw [← e46] at hx hlb ol
      rw [← e46, ← e47] at b1
      rw [← e47] at hd8
      refine es_sg 6 (p := ((0 : Int) = 0) ∧ (((0 : Int) = 0) ∧ (0 ≤ l ∧ l < 5))) (pc' := 15) (ls' := [some (aR 20 (0 : Int)), some (aI nn), some (aI l), some (aI (S 46 0 l)), o4, o5]) (st' := [aR 20 (0 : Int)]) (S' := S) rfl ⟨rfl, ⟨rfl, (by omega)⟩⟩ ?_
      refine es_sg 6 (p := ((0 : Int) = 0) ∧ ((0 : Int) = 0)) (pc' := 25) (ls' := [some (aR 20 (0 : Int)), some (aI nn), some (aI l), some (aI (S 46 0 l)), o4, o5]) (st' := [aR 47 (0 : Int), aI (S 46 0 l), aR 20 (0 : Int), aI l, aR 49 (0 : Int)]) (S' := S) rfl ⟨rfl, rfl⟩ ?_
      refine es_sg 2 (p := ((0 : Int) = 0) ∧ (0 ≤ l ∧ l < 5)) (pc' := 27) (ls' := [some (aR 20 (0 : Int)), some (aI nn), some (aI l), some (aI (S 46 0 l)), o4, o5]) (st' := [aI (S 47 0 l), aI (S 46 0 l), aR 20 (0 : Int), aI l, aR 49 (0 : Int)]) (S' := S) rfl ⟨rfl, (by omega)⟩ ?_
      refine es_callV rfl rfl 20 (0 : Int) [aI (S 46 0 l), aI (S 47 0 l)] [aI l, aR 49 (0 : Int)] rfl rfl rfl rfl (Nat.le_of_ble_eq_true rfl) (Nat.le_of_ble_eq_true rfl) (Nat.le_of_ble_eq_true rfl) ?_
      refine n107 (S := S) (A := su W 1 p 11 v) (p := (S 46 0 l)) (s := (S 47 0 l)) (by omega) (by omega) hx hRS hlb ?_
      show Es G 110 30 [some (aR 20 (0 : Int)), some (aI nn), some (aI l), some (aI (S 46 0 l)), o4, o5] [aL (lbX W (S 46 0 l) (S 47 0 l)), aI l, aR 49 (0 : Int)] S _ _
      refine es_sg 1 (p := (((0 : Int) = 0) ∧ (0 ≤ l ∧ l < 5)) ∧ (r64 (lbX W (S 46 0 l) (S 47 0 l)))) (pc' := 31) (ls' := [some (aR 20 (0 : Int)), some (aI nn), some (aI l), some (aI (S 46 0 l)), o4, o5]) (st' := []) (S' := su S 49 0 l (lbX W (S 46 0 l) (S 47 0 l))) rfl ⟨⟨rfl, (by omega)⟩, ⟨by omega, by omega⟩⟩ ?_
      refine es_rg (fun hg2 => ?_)
      refine es_sg 6 (p := (0 : Int) = 0) (pc' := 39) (ls' := [some (aR 20 (0 : Int)), some (aI nn), some (aI l), some (aI (S 46 0 l)), o4, o5]) (st' := [aR 20 (0 : Int), aI (S 46 0 l), aR 20 (0 : Int), aI l, aR 50 (0 : Int)]) (S' := su S 49 0 l (lbX W (S 46 0 l) (S 47 0 l))) rfl rfl ?_
      refine es_sg 3 (p := ((0 : Int) = 0) ∧ (((0 : Int) = 0) ∧ (0 ≤ l ∧ l < 5))) (pc' := 44) (ls' := [some (aR 20 (0 : Int)), some (aI nn), some (aI l), some (aI (S 46 0 l)), o4, o5]) (st' := [aI (S 47 0 l), aI (S 46 0 l), aR 20 (0 : Int), aI l, aR 50 (0 : Int)]) (S' := su S 49 0 l (lbX W (S 46 0 l) (S 47 0 l))) rfl ⟨rfl, ⟨rfl, (by omega)⟩⟩ ?_
      refine es_callV rfl rfl 20 (0 : Int) [aI (S 46 0 l), aI (S 47 0 l)] [aI l, aR 50 (0 : Int)] rfl rfl rfl rfl (Nat.le_of_ble_eq_true rfl) (Nat.le_of_ble_eq_true rfl) (Nat.le_of_ble_eq_true rfl) ?_
      refine n108 (S := su S 49 0 l (lbX W (S 46 0 l) (S 47 0 l))) (A := su W 1 p 11 v) (p := (S 46 0 l)) (s := (S 47 0 l)) (by omega) (by omega) hx (hRS.ar (by decide)) hlb ?_
      show Es G 110 47 [some (aR 20 (0 : Int)), some (aI nn), some (aI l), some (aI (S 46 0 l)), o4, o5] [aL (lbY W (S 46 0 l) (S 47 0 l)), aI l, aR 50 (0 : Int)] (su S 49 0 l (lbX W (S 46 0 l) (S 47 0 l))) _ _
      refine es_sg 1 (p := (((0 : Int) = 0) ∧ (0 ≤ l ∧ l < 5)) ∧ (r64 (lbY W (S 46 0 l) (S 47 0 l)))) (pc' := 48) (ls' := [some (aR 20 (0 : Int)), some (aI nn), some (aI l), some (aI (S 46 0 l)), o4, o5]) (st' := []) (S' := su (su S 49 0 l (lbX W (S 46 0 l) (S 47 0 l))) 50 0 l (lbY W (S 46 0 l) (S 47 0 l))) rfl ⟨⟨rfl, (by omega)⟩, ⟨by omega, by omega⟩⟩ ?_
      refine es_rg (fun hg3 => ?_)
      refine es_s0 2 (pc' := 51) (ls' := [some (aR 20 (0 : Int)), some (aI nn), some (aI l), some (aI (S 46 0 l)), some (aI (0 : Int)), o5]) (st' := []) (S' := su (su S 49 0 l (lbX W (S 46 0 l) (S 47 0 l))) 50 0 l (lbY W (S 46 0 l) (S 47 0 l))) rfl ?_
      have hK2 : Kq S0 (su (su S 49 0 l (lbX W (S 46 0 l) (S 47 0 l))) 50 0 l (lbY W (S 46 0 l) (S 47 0 l))) := fun t a b => (su_tt _ b).trans ((su_tt _ a).trans (hK t a b))
      have hc2 : ∀ j, 0 ≤ j → j < l + 1 → su (su S 49 0 l (lbX W (S 46 0 l) (S 47 0 l))) 50 0 l (lbY W (S 46 0 l) (S 47 0 l)) 49 0 j = lbX W (ow W j) (d j) ∧ su (su S 49 0 l (lbX W (S 46 0 l) (S 47 0 l))) 50 0 l (lbY W (S 46 0 l) (S 47 0 l)) 50 0 j = lbY W (ow W j) (d j) := fun j j0 j1 => by
        refine ⟨?_, ?_⟩
        · show su S 49 0 l (lbX W (S 46 0 l) (S 47 0 l)) 49 0 j = _
          rw [suA]
          by_cases e : j = l
          · subst e; rw [if_pos rfl, e46, e47]
          · rw [if_neg e]; exact (hc j j0 (by omega)).1
        · rw [suA]
          by_cases e : j = l
          · subst e; rw [if_pos rfl, e46, e47]
          · rw [if_neg e]; exact (hc j j0 (by omega)).2
      have hc3 := hc2 l hl (by omega)
      refine n110_a hW hnn (d := d) ((hRS.ar (by decide)).ar (by decide)) (l := l) ⟨hl, by omega⟩ e46 (by have z := hc3.1; rw [← e46] at z; exact z) (by have z := hc3.2; rw [← e46] at z; exact z) (fun hf o5 => ?_) (fun hf => h0 _ hK2 (fun z => hf (z.1 l hl (by omega)).2)) (W 0 0 5).toNat 0 _ (by omega) (by omega) (fun j j0 j1 => absurd j1 (by omega))
      refine n110_b hW hnn (d := d) ((hRS.ar (by decide)).ar (by decide)) (fun i i0 i1 => ?_) (l := l) ⟨hl, by omega⟩ e46 (fun j j0 j1 => hc2 j j0 (by omega)) (fun hm o4 o5 => ?_) (fun j j0 j1 hm => h0 _ hK2 (fun z => z.2 j l j0 j1 (by omega) hm)) l.toNat 0 _ (by omega) (by omega) (fun j j0 j1 => absurd j1 (by omega))
      · rw [hK2 46 (by decide) (by decide)]; exact hO i i0 i1
      refine ih (n - 1) (by omega) _ (l + 1) _ _ _ (by omega) (by omega) hK2 (fun j j0 j1 => hc2 j j0 j1) ⟨fun i i0 i1 => ?_, fun i m i0 i1 i2 => ?_⟩
      · by_cases e : i = l
        · subst e; exact ⟨hD i i0 (by omega), hf⟩
        · exact hV.1 i i0 (by omega)
      · by_cases e : m = l
        · subst e; exact hm i i0 i1
        · exact hV.2 i m i0 i1 (by omega)
theorem n110 {G : Gw} {S : Sg} {k : Nat} {Q : AQ} {W : Sg} {p v nn : Int} {d : Int → Int} (hW : WI W) (hnn : nn = labC W) (hR : RR (su W 1 p 11 v) S) (hO : ∀ l, 0 ≤ l → l < nn → S 46 0 l = ow W l) (hT : ∀ l, 0 ≤ l → l < nn → S 47 0 l = d l) (hD : Dg d nn) (h1 : ∀ S' : Sg, Kq S S' → vW W nn d → Q (.inl (some (aI 1))) S') (h0 : ∀ S' : Sg, Kq S S' → ¬ vW W nn d → Q (.inl (some (aI 0))) S')  : Es G 110 0 (aEnt 6 [aR 20 (0 : Int), aI nn]) [] S (k + 2) Q := by
  refine es_rg (fun hg1 => ?_)
  refine es_s0 2 (pc' := 2) (ls' := [some (aR 20 (0 : Int)), some (aI nn), some (aI (0 : Int)), none, none, none]) (st' := []) (S' := S) rfl ?_
  exact n110_o hW hnn hR hO hT hD h1 h0 nn.toNat S 0 _ _ _ (by omega) (by have := labC_n W; omega) (fun _ _ _ => rfl) (fun j j0 j1 => absurd j1 (by omega)) ⟨fun l a b => absurd b (by omega), fun l m a b c => absurd c (by omega)⟩
