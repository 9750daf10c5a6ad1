/-! THE CLASS: the search for the labels' spots -/
def fnP (W : Sg) (p s i : Int) : Prop := (lbX W p s < W 1 i 2 + pW W i ∧ W 1 i 2 < lbX W p s + W 1 p 9) ∧ (lbY W p s < W 1 i 3 + pH W i ∧ W 1 i 3 < lbY W p s + W 1 p 10)
def frP (W : Sg) (p s : Int) : Prop := ∀ i, 0 ≤ i → i < W 0 0 5 → ¬ fnP W p s i
def mtP (W : Sg) (p s q t : Int) : Prop := (lbX W p s < lbX W q t + W 1 q 9 ∧ lbX W q t < lbX W p s + W 1 p 9) ∧ (lbY W p s < lbY W q t + W 1 q 10 ∧ lbY W q t < lbY W p s + W 1 p 10)
def frL (W : Sg) (l s : Int) : Prop := frP W (ow W l) s
def mtL (W : Sg) (l s m t : Int) : Prop := mtP W (ow W l) s (ow W m) t
def ctL (W : Sg) (l s : Int) : Int := if W 1 (ow W l) 11 = -1 ∨ W 1 (ow W l) 11 = s then 0 else 1
theorem ctL_b (W : Sg) (l s : Int) : 0 ≤ ctL W l s ∧ ctL W l s ≤ 1 := by
  unfold ctL
  split <;> omega
/-- what the search asks of the store -/
def WI (W : Sg) : Prop := (0 ≤ W 0 0 5 ∧ W 0 0 5 ≤ 60) ∧ (∀ i, 0 ≤ i → i < 60 → okXY W i ∧ (W 1 i 8 = 1 → okLb W i ∧ (-1 ≤ W 1 i 11 ∧ W 1 i 11 < 8))) ∧ (∀ i, W 0 0 5 ≤ i → i < 60 → ¬ W 1 i 8 = 1) ∧ labC W ≤ 5
theorem WI.n {W : Sg} (h : WI W) : lbc W (W 0 0 5) = labC W := by
  have := cntF_cut (f := fun q => decide (W 1 q 8 = 1)) (W 0 0 5).toNat (60 - (W 0 0 5).toNat) 0 (fun q a b => by
    have := h.2.2.1 q (by have := h.1; omega) (by have := h.1; omega)
    simp [this])
  rw [show (W 0 0 5).toNat + (60 - (W 0 0 5).toNat) = 60 from by have := h.1; omega] at this
  exact this.symm
theorem WI.ow {W : Sg} (h : WI W) {l : Int} (h0 : 0 ≤ l) (hl : l < labC W) : (0 ≤ ow W l ∧ ow W l < W 0 0 5) ∧ W 1 (ow W l) 8 = 1 ∧ lbc W (ow W l) = l := ow_is h.1 h0 (by rw [h.n]; exact hl)
theorem WI.lt {W : Sg} (h : WI W) {p : Int} (hp : 0 ≤ p ∧ p < 60) (hl : W 1 p 8 = 1) : lbc W p < labC W := by rw [← lbc_60]; exact lbc_lt hp.1 hp.2 hl
/-- one label's row is laid out -/
def ShL (W S : Sg) (l : Int) : Prop := S 13 0 l = W 1 (ow W l) 11 ∧ ∀ s, 0 ≤ s → s < 8 → S 7 0 (l * 8 + s) = lbX W (ow W l) s ∧ S 8 0 (l * 8 + s) = lbY W (ow W l) s ∧ S 9 0 (l * 8 + s) = lbX W (ow W l) s + W 1 (ow W l) 9 ∧ S 10 0 (l * 8 + s) = lbY W (ow W l) s + W 1 (ow W l) 10
def Sh (W S : Sg) (n : Int) : Prop := S 6 0 8 = n ∧ ∀ l, 0 ≤ l → l < n → ShL W S l
theorem lk_pW {W S : Sg} (h : Lk W S) (p : Int) : pW S p = pW W p := by unfold pW; rw [h 1 (by decide)]
theorem lk_pH {W S : Sg} (h : Lk W S) (p : Int) : pH S p = pH W p := by unfold pH; rw [h 1 (by decide)]
theorem lk_lX {W S : Sg} (h : Lk W S) (p s : Int) : lbX S p s = lbX W p s := by unfold lbX; rw [lk_pW h, h 1 (by decide)]
theorem lk_lY {W S : Sg} (h : Lk W S) (p s : Int) : lbY S p s = lbY W p s := by unfold lbY; rw [lk_pH h, h 1 (by decide)]
theorem lk_oX {W S : Sg} (h : Lk W S) {p : Int} (g : okXY W p) : okXY S p := by unfold okXY at g ⊢; rw [h 1 (by decide)]; exact g
theorem lk_oL {W S : Sg} (h : Lk W S) {p : Int} (g : okLb W p) : okLb S p := by unfold okLb at g ⊢; rw [h 1 (by decide)]; exact g
theorem Lk.put {W S : Sg} {t : Nat} {i j v : Int} (h : Lk W S) (ht : 5 ≤ t) : Lk W (su S t i j v) := fun t' ht' => (su_tt _ (by omega)).trans (h t' ht')
theorem Fr.put {S S' : Sg} {t : Nat} {i j v : Int} (h : Fr S S') (ht : t < 20) : Fr S (su S' t i j v) := fun t' ht' => (su_tt _ (by omega)).trans (h t' ht')
theorem suO {S : Sg} {t t' : Nat} {i j v i' j' : Int} (h : t' = t → j' = j → i' = i → False) : su S t i j v t' i' j' = S t' i' j' := by
  unfold su
  rw [if_neg (fun q => h q.1 q.2.1 q.2.2)]
theorem ShL.put {W S : Sg} {t : Nat} {l i v : Int} (h : ShL W S l) (h1 : t = 13 → ¬ i = l) (h2 : t = 13 ∨ ¬ (7 ≤ t ∧ t ≤ 10) ∨ l * 8 + 8 ≤ i) : ShL W (su S t 0 i v) l := by
  refine ⟨?_, fun s a b => ?_⟩
  · rw [suO (fun q1 q2 _ => h1 q1.symm q2.symm)]; exact h.1
  · rw [suO (fun q1 q2 _ => by omega), suO (fun q1 q2 _ => by omega), suO (fun q1 q2 _ => by omega), suO (fun q1 q2 _ => by omega)]
    exact h.2 s a b
theorem m91_l {G : Gw} {S : Sg} {k : Nat} {Q : AQ} {W : Sg} (hL : Lk W S) (hW : WI W) : ∀ (n : Nat) (p : Int) (_ : 0 ≤ p) (_ : p + n = W 0 0 5) (_ : Q (.inl (some (aI (labC W)))) S), Es G 91 4 [some (aR 0 (0 : Int)), some (aI (lbc W p)), some (aI p)] [] S (k + 0) Q := by
  intro n
  induction n using Nat.strongRecOn with
  | _ n ih =>
    intro p hp hn h
    have h05 := hW.1
    have e05 : S 0 0 5 = W 0 0 5 := by rw [hL 0 (by decide)]
    have e18 : S 1 p 8 = W 1 p 8 := by rw [hL 1 (by decide)]
    have hb : 0 ≤ lbc W p ∧ lbc W p ≤ p.toNat := cntF_b _ _ _
    refine es_rg (fun hgz => ?_)
    have hz : p < 60 → S 1 p 8 = 0 ∨ S 1 p 8 = 1 := fun q => rgZ hgz (t := 1) (i := p) (q := 8) (by omega : 0 ≤ p ∧ p < 60) (by omega) rfl
    refine es_rg (fun hg1 => ?_)
    refine es_sg 3 (p := (0 : Int) = 0) (pc' := 9) (ls' := [some (aR 0 (0 : Int)), some (aI (lbc W p)), some (aI p)]) (st' := [aI (S 0 0 5), aI p]) (S' := S) rfl rfl ?_
    refine es_icmp rfl 33 rfl ⟨by omega, by omega⟩ (rgI hg1 (t := 0) (i := (0 : Int)) (q := (5 : Int)) (by omega : 0 ≤ (0 : Int) ∧ (0 : Int) < 1) (by omega) rfl) (fun (g9 : (S 0 0 5) ≤ p) => ?_) (fun (g9 : ¬ ((S 0 0 5) ≤ p)) => ?_)
    · refine es_s0 1 (pc' := 34) (ls' := [some (aR 0 (0 : Int)), some (aI (lbc W p)), some (aI p)]) (st' := [aI (lbc W p)]) (S' := S) rfl ?_
      refine es_iret rfl rfl rfl (Or.inl rfl) ?_
      have e : p = W 0 0 5 := by omega
      subst e
      rw [hW.n]
      exact h
    · refine es_sg 5 (p := ((0 : Int) = 0) ∧ ((((0 : Int) = 0) ∧ (0 ≤ p ∧ p < 60)) ∧ (0 ≤ p ∧ p < 60))) (pc' := 21) (ls' := [some (aR 0 (0 : Int)), some (aI (lbc W p)), some (aI p)]) (st' := [aI (S 1 p 8)]) (S' := S) rfl ⟨rfl, ⟨rfl, (by omega)⟩, (by omega)⟩ ?_
      refine es_if rfl 27 rfl (r32_z (rgZ hg1 (t := 1) (i := p) (q := (8 : Int)) (by omega : 0 ≤ p ∧ p < 60) (by omega) rfl)) (fun (g21 : (S 1 p 8) = (0 : Int)) => ?_) (fun (g21 : ¬ ((S 1 p 8) = (0 : Int))) => ?_)
      · refine es_s0 2 (pc' := 4) (ls' := [some (aR 0 (0 : Int)), some (aI (lbc W p)), some (aI (p + 1))]) (st' := []) (S' := S) rfl ?_
        rw [← lbc_s0 (A := W) hp (show ¬ W 1 p 8 = 1 from by omega)]
        exact ih (n - 1) (by omega) (p + 1) (by omega) (by omega) h
      · refine es_s0 3 (pc' := 4) (ls' := [some (aR 0 (0 : Int)), some (aI ((lbc W p) + 1)), some (aI (p + 1))]) (st' := []) (S' := S) rfl ?_
        rw [← lbc_s1 hp (show W 1 p 8 = 1 from by omega)]
        exact ih (n - 1) (by omega) (p + 1) (by omega) (by omega) h
theorem m91 {G : Gw} {S : Sg} {k : Nat} {Q : AQ} {W : Sg} (hL : Lk W S) (hW : WI W) (h : Q (.inl (some (aI (labC W)))) S) : Es G 91 0 (aEnt 3 [aR 0 (0 : Int)]) [] S (k + 0) Q := by
  refine es_rg (fun hg1 => ?_)
  refine es_s0 4 (pc' := 4) (ls' := [some (aR 0 (0 : Int)), some (aI (0 : Int)), some (aI (0 : Int))]) (st' := []) (S' := S) rfl ?_
  exact m91_l hL hW (W 0 0 5).toNat 0 (by omega) (by have := hW.1; omega) h
theorem m95_l {G : Gw} {S0 : Sg} {k : Nat} {Q : AQ} {W : Sg} (hW : WI W) {p c : Int} (hp : 0 ≤ p ∧ p < 60) (hl : W 1 p 8 = 1) (hc : c = lbc W p) (hc5 : 0 ≤ c ∧ c < 5) (h : ∀ S' : Sg, Lk W S' → Fr S0 S' → Sh W S' (c + 1) → Q (.inl none) S') : ∀ (n : Nat) (S : Sg) (s : Int) (o : Option AV) (_ : 0 ≤ s) (_ : s + n = 8) (_ : Lk W S) (_ : Fr S0 S) (_ : S 6 0 8 = c) (_ : ∀ l, 0 ≤ l → l < c → ShL W S l) (_ : S 13 0 c = W 1 p 11) (_ : ∀ q, 0 ≤ q → q < s → S 7 0 (c * 8 + q) = lbX W p q ∧ S 8 0 (c * 8 + q) = lbY W p q ∧ S 9 0 (c * 8 + q) = lbX W p q + W 1 p 9 ∧ S 10 0 (c * 8 + q) = lbY W p q + W 1 p 10), Es G 95 15 [some (aR 6 (0 : Int)), some (aR 1 p), some (aI s), o] [] S (k + 2) Q := by
  intro n
  induction n using Nat.strongRecOn with
  | _ n ih =>
    intro S s o hs hn hL hF e6 hsh h13 hq
    have hw := hW.2.1 p hp.1 hp.2
    have hxS := lk_oX hL hw.1
    have hlS := lk_oL hL (hw.2 hl).1
    have hb := lb_b (s := s) hxS hlS
    have hlu := hlS
    unfold okLb at hlu
    have e19 : S 1 p 9 = W 1 p 9 := by rw [hL 1 (by decide)]
    have e1a : S 1 p 10 = W 1 p 10 := by rw [hL 1 (by decide)]
    have r7 : su S 7 0 (S 6 0 8 * 8 + s) (lbX S p s) 7 0 (S 6 0 8 * 8 + s) = lbX S p s := by rw [suA, if_pos rfl]
    have r8 : su (su S 7 0 (S 6 0 8 * 8 + s) (lbX S p s)) 8 0 (S 6 0 8 * 8 + s) (lbY S p s) 8 0 (S 6 0 8 * 8 + s) = lbY S p s := by rw [suA, if_pos rfl]
    refine es_rg (fun hg1 => ?_)
    refine es_s0 2 (pc' := 18) (ls' := [some (aR 6 (0 : Int)), some (aR 1 p), some (aI s), o]) (st' := [aI (8 : Int), aI s]) (S' := S) rfl ?_
    refine es_icmp rfl 93 rfl ⟨by omega, by omega⟩ ⟨by decide, by decide⟩ (fun (g18 : (8 : Int) ≤ s) => ?_) (fun (g18 : ¬ ((8 : Int) ≤ s)) => ?_)
    · refine es_sg 6 (p := ((0 : Int) = 0) ∧ (((0 : Int) = 0) ∧ (r32 ((S 6 0 8) + 1)))) (pc' := 103) (ls' := [some (aR 6 (0 : Int)), some (aR 1 p), some (aI s), o]) (st' := []) (S' := su S 6 0 8 ((S 6 0 8) + 1)) rfl ⟨rfl, ⟨rfl, ⟨by omega, by omega⟩⟩⟩ ?_
      refine es_rg (fun hg2 => ?_)
      refine es_vret rfl ?_
      refine h _ (hL.put (by decide)) (hF.put (by decide)) ⟨?_, fun l a b => ?_⟩
      · show su S 6 0 8 (S 6 0 8 + 1) 6 0 8 = c + 1
        rw [suA, if_pos rfl, e6]
      · refine ShL.put ?_ (by omega) (by omega)
        by_cases e : l < c
        · exact hsh l a e
        · have e2 : l = c := by omega
          subst e2
          unfold ShL
          rw [hc, ow_of hp hl, ← hc]
          exact ⟨h13, fun q a b => hq q a (by omega)⟩
    · refine es_sg 6 (p := (0 : Int) = 0) (pc' := 30) (ls' := [some (aR 6 (0 : Int)), some (aR 1 p), some (aI s), o]) (st' := [aI (((S 6 0 8) * 8) + s)]) (S' := S) rfl rfl ?_
      refine es_sg 6 (p := (0 : Int) = 0) (pc' := 38) (ls' := [some (aR 6 (0 : Int)), some (aR 1 p), some (aI s), some (aI (((S 6 0 8) * 8) + s))]) (st' := [aI s, aR 1 p, aI (((S 6 0 8) * 8) + s), aR 7 (0 : Int)]) (S' := S) rfl rfl ?_
      refine es_callV rfl rfl 1 p [aI s] [aI (((S 6 0 8) * 8) + s), aR 7 (0 : Int)] rfl rfl rfl (show 0 ≤ p ∧ p < 60 from (by omega)) (Nat.le_of_ble_eq_true rfl) (Nat.le_of_ble_eq_true rfl) (Nat.le_of_ble_eq_true rfl) ?_
      refine m93 (S := S) (p := p) (s := s) (by omega) (by omega) (hxS : okXY S p) (hlS : okLb S p) ?_
      show Es G 95 41 [some (aR 6 (0 : Int)), some (aR 1 p), some (aI s), some (aI (((S 6 0 8) * 8) + s))] [aL (lbX S p s), aI (((S 6 0 8) * 8) + s), aR 7 (0 : Int)] S _ _
      refine es_sg 1 (p := (((0 : Int) = 0) ∧ (0 ≤ (((S 6 0 8) * 8) + s) ∧ (((S 6 0 8) * 8) + s) < 40)) ∧ (r64 (lbX S p s))) (pc' := 42) (ls' := [some (aR 6 (0 : Int)), some (aR 1 p), some (aI s), some (aI (((S 6 0 8) * 8) + s))]) (st' := []) (S' := su S 7 0 (((S 6 0 8) * 8) + s) (lbX S p s)) rfl ⟨⟨rfl, (by omega)⟩, ⟨by omega, by omega⟩⟩ ?_
      refine es_rg (fun hg3 => ?_)
      refine es_sg 5 (p := (0 : Int) = 0) (pc' := 49) (ls' := [some (aR 6 (0 : Int)), some (aR 1 p), some (aI s), some (aI (((S 6 0 8) * 8) + s))]) (st' := [aI s, aR 1 p, aI (((S 6 0 8) * 8) + s), aR 8 (0 : Int)]) (S' := su S 7 0 (((S 6 0 8) * 8) + s) (lbX S p s)) rfl rfl ?_
      refine es_callV rfl rfl 1 p [aI s] [aI (((S 6 0 8) * 8) + s), aR 8 (0 : Int)] rfl rfl rfl (show 0 ≤ p ∧ p < 60 from (by omega)) (Nat.le_of_ble_eq_true rfl) (Nat.le_of_ble_eq_true rfl) (Nat.le_of_ble_eq_true rfl) ?_
      refine m94 (S := su S 7 0 (((S 6 0 8) * 8) + s) (lbX S p s)) (p := p) (s := s) (by omega) (by omega) (hxS : okXY S p) (hlS : okLb S p) ?_
      show Es G 95 52 [some (aR 6 (0 : Int)), some (aR 1 p), some (aI s), some (aI (((S 6 0 8) * 8) + s))] [aL (lbY S p s), aI (((S 6 0 8) * 8) + s), aR 8 (0 : Int)] (su S 7 0 (((S 6 0 8) * 8) + s) (lbX S p s)) _ _
      refine es_sg 1 (p := (((0 : Int) = 0) ∧ (0 ≤ (((S 6 0 8) * 8) + s) ∧ (((S 6 0 8) * 8) + s) < 40)) ∧ (r64 (lbY S p s))) (pc' := 53) (ls' := [some (aR 6 (0 : Int)), some (aR 1 p), some (aI s), some (aI (((S 6 0 8) * 8) + s))]) (st' := []) (S' := su (su S 7 0 (((S 6 0 8) * 8) + s) (lbX S p s)) 8 0 (((S 6 0 8) * 8) + s) (lbY S p s)) rfl ⟨⟨rfl, (by omega)⟩, ⟨by omega, by omega⟩⟩ ?_
      refine es_rg (fun hg4 => ?_)
      refine es_sg 6 (p := ((0 : Int) = 0) ∧ ((0 : Int) = 0)) (pc' := 63) (ls' := [some (aR 6 (0 : Int)), some (aR 1 p), some (aI s), some (aI (((S 6 0 8) * 8) + s))]) (st' := [aI (((S 6 0 8) * 8) + s), aR 7 (0 : Int), aI (((S 6 0 8) * 8) + s), aR 9 (0 : Int)]) (S' := su (su S 7 0 (((S 6 0 8) * 8) + s) (lbX S p s)) 8 0 (((S 6 0 8) * 8) + s) (lbY S p s)) rfl ⟨rfl, rfl⟩ ?_
      refine es_sg 5 (p := (((0 : Int) = 0) ∧ (0 ≤ (((S 6 0 8) * 8) + s) ∧ (((S 6 0 8) * 8) + s) < 40)) ∧ ((0 ≤ p ∧ p < 60) ∧ ((((0 : Int) = 0) ∧ (0 ≤ (((S 6 0 8) * 8) + s) ∧ (((S 6 0 8) * 8) + s) < 40)) ∧ (r64 (((su S 7 0 (((S 6 0 8) * 8) + s) (lbX S p s)) 7 0 (((S 6 0 8) * 8) + s)) + (S 1 p 9)))))) (pc' := 70) (ls' := [some (aR 6 (0 : Int)), some (aR 1 p), some (aI s), some (aI (((S 6 0 8) * 8) + s))]) (st' := []) (S' := su (su (su S 7 0 (((S 6 0 8) * 8) + s) (lbX S p s)) 8 0 (((S 6 0 8) * 8) + s) (lbY S p s)) 9 0 (((S 6 0 8) * 8) + s) (((su S 7 0 (((S 6 0 8) * 8) + s) (lbX S p s)) 7 0 (((S 6 0 8) * 8) + s)) + (S 1 p 9))) rfl ⟨⟨rfl, (by omega)⟩, (by omega), ⟨⟨rfl, (by omega)⟩, ⟨by omega, by omega⟩⟩⟩ ?_
      refine es_rg (fun hg5 => ?_)
      refine es_sg 6 (p := ((0 : Int) = 0) ∧ ((0 : Int) = 0)) (pc' := 80) (ls' := [some (aR 6 (0 : Int)), some (aR 1 p), some (aI s), some (aI (((S 6 0 8) * 8) + s))]) (st' := [aI (((S 6 0 8) * 8) + s), aR 8 (0 : Int), aI (((S 6 0 8) * 8) + s), aR 10 (0 : Int)]) (S' := su (su (su S 7 0 (((S 6 0 8) * 8) + s) (lbX S p s)) 8 0 (((S 6 0 8) * 8) + s) (lbY S p s)) 9 0 (((S 6 0 8) * 8) + s) (((su S 7 0 (((S 6 0 8) * 8) + s) (lbX S p s)) 7 0 (((S 6 0 8) * 8) + s)) + (S 1 p 9))) rfl ⟨rfl, rfl⟩ ?_
      refine es_sg 5 (p := (((0 : Int) = 0) ∧ (0 ≤ (((S 6 0 8) * 8) + s) ∧ (((S 6 0 8) * 8) + s) < 40)) ∧ ((0 ≤ p ∧ p < 60) ∧ ((((0 : Int) = 0) ∧ (0 ≤ (((S 6 0 8) * 8) + s) ∧ (((S 6 0 8) * 8) + s) < 40)) ∧ (r64 (((su (su S 7 0 (((S 6 0 8) * 8) + s) (lbX S p s)) 8 0 (((S 6 0 8) * 8) + s) (lbY S p s)) 8 0 (((S 6 0 8) * 8) + s)) + (S 1 p 10)))))) (pc' := 87) (ls' := [some (aR 6 (0 : Int)), some (aR 1 p), some (aI s), some (aI (((S 6 0 8) * 8) + s))]) (st' := []) (S' := su (su (su (su S 7 0 (((S 6 0 8) * 8) + s) (lbX S p s)) 8 0 (((S 6 0 8) * 8) + s) (lbY S p s)) 9 0 (((S 6 0 8) * 8) + s) (((su S 7 0 (((S 6 0 8) * 8) + s) (lbX S p s)) 7 0 (((S 6 0 8) * 8) + s)) + (S 1 p 9))) 10 0 (((S 6 0 8) * 8) + s) (((su (su S 7 0 (((S 6 0 8) * 8) + s) (lbX S p s)) 8 0 (((S 6 0 8) * 8) + s) (lbY S p s)) 8 0 (((S 6 0 8) * 8) + s)) + (S 1 p 10))) rfl ⟨⟨rfl, (by omega)⟩, (by omega), ⟨⟨rfl, (by omega)⟩, ⟨by omega, by omega⟩⟩⟩ ?_
      refine es_rg (fun hg6 => ?_)
      refine es_s0 2 (pc' := 15) (ls' := [some (aR 6 (0 : Int)), some (aR 1 p), some (aI (s + 1)), some (aI (((S 6 0 8) * 8) + s))]) (st' := []) (S' := su (su (su (su S 7 0 (((S 6 0 8) * 8) + s) (lbX S p s)) 8 0 (((S 6 0 8) * 8) + s) (lbY S p s)) 9 0 (((S 6 0 8) * 8) + s) (((su S 7 0 (((S 6 0 8) * 8) + s) (lbX S p s)) 7 0 (((S 6 0 8) * 8) + s)) + (S 1 p 9))) 10 0 (((S 6 0 8) * 8) + s) (((su (su S 7 0 (((S 6 0 8) * 8) + s) (lbX S p s)) 8 0 (((S 6 0 8) * 8) + s) (lbY S p s)) 8 0 (((S 6 0 8) * 8) + s)) + (S 1 p 10))) rfl ?_
      rw [r7, r8]
      refine ih (n - 1) (by omega) _ (s + 1) _ (by omega) (by omega) ((((hL.put (by decide)).put (by decide)).put (by decide)).put (by decide)) ((((hF.put (by decide)).put (by decide)).put (by decide)).put (by decide)) e6 (fun l a b => ?_) h13 (fun q a b => ?_)
      · refine ShL.put (ShL.put (ShL.put (ShL.put (hsh l a b) (by omega) (by omega)) (by omega) (by omega)) (by omega) (by omega)) (by omega) (by omega)
      · show su S 7 0 (S 6 0 8 * 8 + s) (lbX S p s) 7 0 (c * 8 + q) = _ ∧ su S 8 0 (S 6 0 8 * 8 + s) (lbY S p s) 8 0 (c * 8 + q) = _ ∧ su S 9 0 (S 6 0 8 * 8 + s) (lbX S p s + S 1 p 9) 9 0 (c * 8 + q) = _ ∧ su S 10 0 (S 6 0 8 * 8 + s) (lbY S p s + S 1 p 10) 10 0 (c * 8 + q) = _
        rw [e6, suA, suA, suA, suA, lk_lX hL, lk_lY hL, e19, e1a]
        by_cases e : q = s
        · subst e
          rw [if_pos rfl, if_pos rfl, if_pos rfl, if_pos rfl]
          exact ⟨rfl, rfl, rfl, rfl⟩
        · rw [if_neg (by omega), if_neg (by omega), if_neg (by omega), if_neg (by omega)]
          exact hq q a (by omega)
theorem m95 {G : Gw} {S : Sg} {k : Nat} {Q : AQ} {W : Sg} (hW : WI W) (hL : Lk W S) {p : Int} (hp : 0 ≤ p ∧ p < 60) (hl : W 1 p 8 = 1) (hc : S 6 0 8 = lbc W p) (hc5 : 0 ≤ lbc W p ∧ lbc W p < 5) (hsh : ∀ l, 0 ≤ l → l < lbc W p → ShL W S l) (h : ∀ S' : Sg, Lk W S' → Fr S S' → Sh W S' (lbc W p + 1) → Q (.inl none) S') : Es G 95 0 (aEnt 4 [aR 6 (0 : Int), aR 1 p]) [] S (k + 2) Q := by
  refine es_rg (fun hg1 => ?_)
  refine es_sg 6 (p := ((0 : Int) = 0) ∧ (((0 : Int) = 0) ∧ (0 ≤ p ∧ p < 60))) (pc' := 12) (ls' := [some (aR 6 (0 : Int)), some (aR 1 p), none, none]) (st' := [aI (S 1 p 11), aI (S 6 0 8), aR 13 (0 : Int)]) (S' := S) rfl ⟨rfl, rfl, (by omega)⟩ ?_
  refine es_sg 1 (p := (((0 : Int) = 0) ∧ (0 ≤ (S 6 0 8) ∧ (S 6 0 8) < 5)) ∧ (r32 (S 1 p 11))) (pc' := 13) (ls' := [some (aR 6 (0 : Int)), some (aR 1 p), none, none]) (st' := []) (S' := su S 13 0 (S 6 0 8) (S 1 p 11)) rfl ⟨⟨rfl, (by omega)⟩, (rgI hg1 (t := 1) (i := p) (q := (11 : Int)) (by omega : 0 ≤ p ∧ p < 60) (by omega) rfl)⟩ ?_
  refine es_rg (fun hg2 => ?_)
  refine es_s0 2 (pc' := 15) (ls' := [some (aR 6 (0 : Int)), some (aR 1 p), some (aI (0 : Int)), none]) (st' := []) (S' := su S 13 0 (S 6 0 8) (S 1 p 11)) rfl ?_
  refine m95_l hW hp hl rfl hc5 h 8 _ 0 _ (by omega) (by omega) (hL.put (by decide)) ((Fr.rf S).put (by decide)) hc (fun l a b => ?_) ?_ (fun q a b => absurd b (by omega))
  · exact ShL.put (hsh l a b) (by omega) (Or.inl rfl)
  · rw [hc, suA, if_pos rfl, hL 1 (by decide)]
theorem m96_l {G : Gw} {S0 : Sg} {k : Nat} {Q : AQ} {W : Sg} (hW : WI W) {np : Int} (hnp : np = W 0 0 5) (h : ∀ S' : Sg, Lk W S' → Fr S0 S' → Sh W S' (labC W) → Q (.inl none) S') : ∀ (n : Nat) (S : Sg) (p : Int) (_ : 0 ≤ p) (_ : p + n = W 0 0 5) (_ : Lk W S) (_ : Fr S0 S) (_ : Sh W S (lbc W p)), Es G 96 7 [some (aR 6 (0 : Int)), some (aR 15 (0 : Int)), some (aI np), some (aI p)] [] S (k + 3) Q := by
  intro n
  induction n using Nat.strongRecOn with
  | _ n ih =>
    intro S p hp hn hL hF hS
    have h05 := hW.1
    have e18 : S 1 p 8 = W 1 p 8 := by rw [hL 1 (by decide)]
    have e6 := hS.1
    have hnn := lbc_nn (A := W) (p := p)
    refine es_rg (fun hgz => ?_)
    have hz : p < 60 → S 1 p 8 = 0 ∨ S 1 p 8 = 1 := fun q => rgZ hgz (t := 1) (i := p) (q := 8) (by omega : 0 ≤ p ∧ p < 60) (by omega) rfl
    refine es_rg (fun hg1 => ?_)
    refine es_s0 2 (pc' := 9) (ls' := [some (aR 6 (0 : Int)), some (aR 15 (0 : Int)), some (aI np), some (aI p)]) (st' := [aI np, aI p]) (S' := S) rfl ?_
    refine es_icmp rfl 42 rfl ⟨by omega, by omega⟩ ⟨by omega, by omega⟩ (fun (g9 : np ≤ p) => ?_) (fun (g9 : ¬ (np ≤ p)) => ?_)
    · refine es_vret rfl ?_
      first
        | (have e : p = W 0 0 5 := by omega
           rw [e, hW.n] at hS
           exact h S hL hF hS)
        | (have e : lbc W p = labC W := by
             have a := lbc_mono (A := W) (p := p) (q := 60) hp (by omega)
             rw [lbc_60] at a
             have b := hW.2.2.2
             have c := hS.1
             omega
           rw [e] at hS
           exact h S hL hF hS)
    · refine es_sg 3 (p := (0 : Int) = 0) (pc' := 17) (ls' := [some (aR 6 (0 : Int)), some (aR 15 (0 : Int)), some (aI np), some (aI p)]) (st' := [aI (5 : Int), aI (S 6 0 8)]) (S' := S) rfl rfl ?_
      refine es_icmp rfl 42 rfl (rgI hg1 (t := 6) (i := (0 : Int)) (q := (8 : Int)) (by omega : 0 ≤ (0 : Int) ∧ (0 : Int) < 1) (by omega) rfl) ⟨by decide, by decide⟩ (fun (g17 : (5 : Int) ≤ (S 6 0 8)) => ?_) (fun (g17 : ¬ ((5 : Int) ≤ (S 6 0 8))) => ?_)
      · refine es_vret rfl ?_
        first
          | (have e : p = W 0 0 5 := by omega
             rw [e, hW.n] at hS
             exact h S hL hF hS)
          | (have e : lbc W p = labC W := by
               have a := lbc_mono (A := W) (p := p) (q := 60) hp (by omega)
               rw [lbc_60] at a
               have b := hW.2.2.2
               have c := hS.1
               omega
             rw [e] at hS
             exact h S hL hF hS)
      · refine es_sg 4 (p := (((0 : Int) = 0) ∧ (0 ≤ p ∧ p < 60)) ∧ (0 ≤ p ∧ p < 60)) (pc' := 26) (ls' := [some (aR 6 (0 : Int)), some (aR 15 (0 : Int)), some (aI np), some (aI p)]) (st' := [aI (S 1 p 8)]) (S' := S) rfl ⟨⟨rfl, (by omega)⟩, (by omega)⟩ ?_
        refine es_if rfl 36 rfl (r32_z (rgZ hg1 (t := 1) (i := p) (q := (8 : Int)) (by omega : 0 ≤ p ∧ p < 60) (by omega) rfl)) (fun (g26 : (S 1 p 8) = (0 : Int)) => ?_) (fun (g26 : ¬ ((S 1 p 8) = (0 : Int))) => ?_)
        · refine es_s0 2 (pc' := 7) (ls' := [some (aR 6 (0 : Int)), some (aR 15 (0 : Int)), some (aI np), some (aI (p + 1))]) (st' := []) (S' := S) rfl ?_
          exact ih (n - 1) (by omega) S (p + 1) (by omega) (by omega) hL hF (by rw [lbc_s0 hp (by omega)]; exact hS)
        · refine es_sg 4 (p := ((0 : Int) = 0) ∧ (0 ≤ p ∧ p < 60)) (pc' := 33) (ls' := [some (aR 6 (0 : Int)), some (aR 15 (0 : Int)), some (aI np), some (aI p)]) (st' := [aR 1 p, aR 6 (0 : Int)]) (S' := S) rfl ⟨rfl, (by omega)⟩ ?_
          refine es_callV rfl rfl 6 (0 : Int) [aR 1 p] [] rfl rfl rfl rfl (Nat.le_of_ble_eq_true rfl) (Nat.le_of_ble_eq_true rfl) (Nat.le_of_ble_eq_true rfl) ?_
          refine m95 hW (S := S) hL (p := p) (by omega) (by omega) hS.1 (by omega) hS.2 (fun S1 j1 j2 j3 => ?_)
          show Es G 96 36 [some (aR 6 (0 : Int)), some (aR 15 (0 : Int)), some (aI np), some (aI p)] [] S1 _ _
          refine es_rg (fun hg2 => ?_)
          refine es_s0 2 (pc' := 7) (ls' := [some (aR 6 (0 : Int)), some (aR 15 (0 : Int)), some (aI np), some (aI (p + 1))]) (st' := []) (S' := S1) rfl ?_
          exact ih (n - 1) (by omega) _ (p + 1) (by omega) (by omega) j1 (hF.tr j2) (by rw [lbc_s1 hp (by omega)]; exact j3)
theorem m96 {G : Gw} {S : Sg} {k : Nat} {Q : AQ} {W : Sg} (hW : WI W) (hL : Lk W S) {np : Int} (hnp : np = W 0 0 5) (h : ∀ S' : Sg, Lk W S' → Fr S S' → Sh W S' (labC W) → Q (.inl none) S') : Es G 96 0 (aEnt 4 [aR 6 (0 : Int), aR 15 (0 : Int), aI np]) [] S (k + 3) Q := by
  refine es_rg (fun hg1 => ?_)
  refine es_sg 3 (p := ((0 : Int) = 0) ∧ (r32 (0 : Int))) (pc' := 5) (ls' := [some (aR 6 (0 : Int)), some (aR 15 (0 : Int)), some (aI np), none]) (st' := []) (S' := su S 6 0 8 0) rfl ⟨rfl, ⟨by decide, by decide⟩⟩ ?_
  refine es_rg (fun hg2 => ?_)
  refine es_s0 2 (pc' := 7) (ls' := [some (aR 6 (0 : Int)), some (aR 15 (0 : Int)), some (aI np), some (aI (0 : Int))]) (st' := []) (S' := su S 6 0 8 0) rfl ?_
  refine m96_l hW hnp h (W 0 0 5).toNat _ 0 (by omega) (by have := hW.1; omega) (hL.put (by decide)) ((Fr.rf S).put (by decide)) ⟨?_, fun l a b => ?_⟩
  · rw [suA, if_pos rfl, lbc_z]
  · rw [lbc_z] at b; omega
theorem m97_l {G : Gw} {S : Sg} {k : Nat} {Q : AQ} {W : Sg} (hW : WI W) (hL : Lk W S) {a np q s : Int} (ha : 0 ≤ a ∧ a < 40) (hnp : np = W 0 0 5) (e7 : S 7 0 a = lbX W q s) (e8 : S 8 0 a = lbY W q s) (e9 : S 9 0 a = lbX W q s + W 1 q 9) (e10 : S 10 0 a = lbY W q s + W 1 q 10) (h1 : frP W q s → Q (.inl (some (aI 1))) S) (h0 : ¬ frP W q s → Q (.inl (some (aI 0))) S) : ∀ (n : Nat) (p : Int) (o : Option AV) (_ : 0 ≤ p) (_ : p + n = W 0 0 5) (_ : ∀ i, 0 ≤ i → i < p → ¬ fnP W q s i), Es G 97 3 [some (aR 6 (0 : Int)), some (aI a), some (aR 15 (0 : Int)), some (aI np), some (aI p), o] [] S (k + 1) Q := by
  intro n
  induction n using Nat.strongRecOn with
  | _ n ih =>
    intro p o hp hn hf
    have h05 := hW.1
    have e12 : S 1 p 2 = W 1 p 2 := by rw [hL 1 (by decide)]
    have e13 : S 1 p 3 = W 1 p 3 := by rw [hL 1 (by decide)]
    have epw := lk_pW hL p
    have eph := lk_pH hL p
    refine es_rg (fun hg1 => ?_)
    refine es_s0 2 (pc' := 6) (ls' := [some (aR 6 (0 : Int)), some (aI a), some (aR 15 (0 : Int)), some (aI np), some (aI p), o]) (st' := [aI np, aI p]) (S' := S) rfl ?_
    refine es_icmp rfl 83 rfl ⟨by omega, by omega⟩ ⟨by omega, by omega⟩ (fun (g6 : np ≤ p) => ?_) (fun (g6 : ¬ (np ≤ p)) => ?_)
    · refine es_s0 1 (pc' := 84) (ls' := [some (aR 6 (0 : Int)), some (aI a), some (aR 15 (0 : Int)), some (aI np), some (aI p), o]) (st' := [aI (1 : Int)]) (S' := S) rfl ?_
      refine es_iret rfl rfl rfl (Or.inr ⟨rfl, (by decide)⟩) ?_
      exact h1 (fun i i0 i1 => hf i i0 (by omega))
    · have hx := lk_oX hL (hW.2.1 p hp (by omega)).1
      have hw := pW_b hx
      have hh := pH_b hx
      unfold okXY at hx
      refine es_sg 6 (p := (((0 : Int) = 0) ∧ (0 ≤ p ∧ p < 60)) ∧ ((0 : Int) = 0)) (pc' := 19) (ls' := [some (aR 6 (0 : Int)), some (aI a), some (aR 15 (0 : Int)), some (aI np), some (aI p), some (aR 1 p)]) (st' := [aR 7 (0 : Int)]) (S' := S) rfl ⟨⟨rfl, (by omega)⟩, rfl⟩ ?_
      refine es_sg 3 (p := ((0 : Int) = 0) ∧ (0 ≤ a ∧ a < 40)) (pc' := 23) (ls' := [some (aR 6 (0 : Int)), some (aI a), some (aR 15 (0 : Int)), some (aI np), some (aI p), some (aR 1 p)]) (st' := [aR 1 p, aL (S 7 0 a)]) (S' := S) rfl ⟨rfl, (by omega)⟩ ?_
      refine es_callV rfl rfl 1 p [] [aL (S 7 0 a)] rfl rfl rfl (show 0 ≤ p ∧ p < 60 from (by omega)) (Nat.le_of_ble_eq_true rfl) (Nat.le_of_ble_eq_true rfl) (Nat.le_of_ble_eq_true rfl) ?_
      refine m43 (i := p) (by omega) (by omega) ?_
      show Es G 97 26 [some (aR 6 (0 : Int)), some (aI a), some (aR 15 (0 : Int)), some (aI np), some (aI p), some (aR 1 p)] [aL ((S 1 p 2) + pW S p), aL (S 7 0 a)] S _ _
      refine es_lif rfl rfl 77 rfl (rgL hg1 (t := 7) (i := (0 : Int)) (q := a) (by omega : 0 ≤ (0 : Int) ∧ (0 : Int) < 1) (by omega) rfl) ⟨by omega, by omega⟩ (fun (g26 : ((S 1 p 2) + pW S p) ≤ (S 7 0 a)) => ?_) (fun (g26 : ¬ (((S 1 p 2) + pW S p) ≤ (S 7 0 a))) => ?_)
      · refine es_s0 2 (pc' := 3) (ls' := [some (aR 6 (0 : Int)), some (aI a), some (aR 15 (0 : Int)), some (aI np), some (aI (p + 1)), some (aR 1 p)]) (st' := []) (S' := S) rfl ?_
        exact ih (n - 1) (by omega) (p + 1) _ (by omega) (by omega) (fun i i0 i1 => by
            by_cases e : i = p
            · subst e; unfold fnP; omega
            · exact hf i i0 (by omega))
      · refine es_sg 6 (p := (0 ≤ p ∧ p < 60) ∧ (((0 : Int) = 0) ∧ (((0 : Int) = 0) ∧ (0 ≤ a ∧ a < 40)))) (pc' := 41) (ls' := [some (aR 6 (0 : Int)), some (aI a), some (aR 15 (0 : Int)), some (aI np), some (aI p), some (aR 1 p)]) (st' := [aL (S 9 0 a), aL (S 1 p 2)]) (S' := S) rfl ⟨(by omega), rfl, ⟨rfl, (by omega)⟩⟩ ?_
        refine es_lif rfl rfl 77 rfl (rgL hg1 (t := 1) (i := p) (q := (2 : Int)) (by omega : 0 ≤ p ∧ p < 60) (by omega) rfl) (rgL hg1 (t := 9) (i := (0 : Int)) (q := a) (by omega : 0 ≤ (0 : Int) ∧ (0 : Int) < 1) (by omega) rfl) (fun (g41 : (S 9 0 a) ≤ (S 1 p 2)) => ?_) (fun (g41 : ¬ ((S 9 0 a) ≤ (S 1 p 2))) => ?_)
        · refine es_s0 2 (pc' := 3) (ls' := [some (aR 6 (0 : Int)), some (aI a), some (aR 15 (0 : Int)), some (aI np), some (aI (p + 1)), some (aR 1 p)]) (st' := []) (S' := S) rfl ?_
          exact ih (n - 1) (by omega) (p + 1) _ (by omega) (by omega) (fun i i0 i1 => by
              by_cases e : i = p
              · subst e; unfold fnP; omega
              · exact hf i i0 (by omega))
        · refine es_sg 5 (p := ((0 : Int) = 0) ∧ (((0 : Int) = 0) ∧ (0 ≤ a ∧ a < 40))) (pc' := 53) (ls' := [some (aR 6 (0 : Int)), some (aI a), some (aR 15 (0 : Int)), some (aI np), some (aI p), some (aR 1 p)]) (st' := [aR 1 p, aL (S 8 0 a)]) (S' := S) rfl ⟨rfl, ⟨rfl, (by omega)⟩⟩ ?_
          refine es_callV rfl rfl 1 p [] [aL (S 8 0 a)] rfl rfl rfl (show 0 ≤ p ∧ p < 60 from (by omega)) (Nat.le_of_ble_eq_true rfl) (Nat.le_of_ble_eq_true rfl) (Nat.le_of_ble_eq_true rfl) ?_
          refine m44 (i := p) (by omega) (by omega) ?_
          show Es G 97 56 [some (aR 6 (0 : Int)), some (aI a), some (aR 15 (0 : Int)), some (aI np), some (aI p), some (aR 1 p)] [aL ((S 1 p 3) + pH S p), aL (S 8 0 a)] S _ _
          refine es_lif rfl rfl 77 rfl (rgL hg1 (t := 8) (i := (0 : Int)) (q := a) (by omega : 0 ≤ (0 : Int) ∧ (0 : Int) < 1) (by omega) rfl) ⟨by omega, by omega⟩ (fun (g56 : ((S 1 p 3) + pH S p) ≤ (S 8 0 a)) => ?_) (fun (g56 : ¬ (((S 1 p 3) + pH S p) ≤ (S 8 0 a))) => ?_)
          · refine es_s0 2 (pc' := 3) (ls' := [some (aR 6 (0 : Int)), some (aI a), some (aR 15 (0 : Int)), some (aI np), some (aI (p + 1)), some (aR 1 p)]) (st' := []) (S' := S) rfl ?_
            exact ih (n - 1) (by omega) (p + 1) _ (by omega) (by omega) (fun i i0 i1 => by
                by_cases e : i = p
                · subst e; unfold fnP; omega
                · exact hf i i0 (by omega))
          · refine es_sg 6 (p := (0 ≤ p ∧ p < 60) ∧ (((0 : Int) = 0) ∧ (((0 : Int) = 0) ∧ (0 ≤ a ∧ a < 40)))) (pc' := 71) (ls' := [some (aR 6 (0 : Int)), some (aI a), some (aR 15 (0 : Int)), some (aI np), some (aI p), some (aR 1 p)]) (st' := [aL (S 10 0 a), aL (S 1 p 3)]) (S' := S) rfl ⟨(by omega), rfl, ⟨rfl, (by omega)⟩⟩ ?_
            refine es_lif rfl rfl 77 rfl (rgL hg1 (t := 1) (i := p) (q := (3 : Int)) (by omega : 0 ≤ p ∧ p < 60) (by omega) rfl) (rgL hg1 (t := 10) (i := (0 : Int)) (q := a) (by omega : 0 ≤ (0 : Int) ∧ (0 : Int) < 1) (by omega) rfl) (fun (g71 : (S 10 0 a) ≤ (S 1 p 3)) => ?_) (fun (g71 : ¬ ((S 10 0 a) ≤ (S 1 p 3))) => ?_)
            · refine es_s0 2 (pc' := 3) (ls' := [some (aR 6 (0 : Int)), some (aI a), some (aR 15 (0 : Int)), some (aI np), some (aI (p + 1)), some (aR 1 p)]) (st' := []) (S' := S) rfl ?_
              exact ih (n - 1) (by omega) (p + 1) _ (by omega) (by omega) (fun i i0 i1 => by
                  by_cases e : i = p
                  · subst e; unfold fnP; omega
                  · exact hf i i0 (by omega))
            · refine es_s0 1 (pc' := 76) (ls' := [some (aR 6 (0 : Int)), some (aI a), some (aR 15 (0 : Int)), some (aI np), some (aI p), some (aR 1 p)]) (st' := [aI (0 : Int)]) (S' := S) rfl ?_
              refine es_iret rfl rfl rfl (Or.inr ⟨rfl, (by decide)⟩) ?_
              exact h0 (fun g => g p hp (by omega) (by unfold fnP; omega))
theorem m97 {G : Gw} {S : Sg} {k : Nat} {Q : AQ} {W : Sg} (hW : WI W) (hL : Lk W S) {a np q s : Int} (ha : 0 ≤ a ∧ a < 40) (hnp : np = W 0 0 5) (e7 : S 7 0 a = lbX W q s) (e8 : S 8 0 a = lbY W q s) (e9 : S 9 0 a = lbX W q s + W 1 q 9) (e10 : S 10 0 a = lbY W q s + W 1 q 10) (h1 : frP W q s → Q (.inl (some (aI 1))) S) (h0 : ¬ frP W q s → Q (.inl (some (aI 0))) S) : Es G 97 0 (aEnt 6 [aR 6 (0 : Int), aI a, aR 15 (0 : Int), aI np]) [] S (k + 1) Q := by
  refine es_rg (fun hg1 => ?_)
  refine es_s0 2 (pc' := 3) (ls' := [some (aR 6 (0 : Int)), some (aI a), some (aR 15 (0 : Int)), some (aI np), some (aI (0 : Int)), none]) (st' := []) (S' := S) rfl ?_
  exact m97_l hW hL ha hnp e7 e8 e9 e10 h1 h0 (W 0 0 5).toNat 0 _ (by omega) (by have := hW.1; omega) (fun i i0 i1 => absurd i1 (by omega))
theorem m98_l {G : Gw} {S : Sg} {k : Nat} {Q : AQ} {W : Sg} (hW : WI W) (hL : Lk W S) {l np : Int} (hl : 0 ≤ l ∧ l < 5) (hnp : np = W 0 0 5) (hS : ShL W S l) (h : ∀ m, r32 m → Bs (frL W l) m 8 → Q (.inl (some (aI m))) S) : ∀ (n : Nat) (s m : Int) (_ : 0 ≤ s) (_ : s + n = 8) (_ : r32 m) (_ : Bs (frL W l) m s), Es G 98 6 [some (aR 6 (0 : Int)), some (aI l), some (aR 15 (0 : Int)), some (aI np), some (aI m), some (aI s)] [] S (k + 2) Q := by
  intro n
  induction n using Nat.strongRecOn with
  | _ n ih =>
    intro s m hs hn hm hb
    have h05 := hW.1
    refine es_rg (fun hg1 => ?_)
    refine es_s0 2 (pc' := 10) (ls' := [some (aR 6 (0 : Int)), some (aI l), some (aR 15 (0 : Int)), some (aI np), some (aI m), some (aI s)]) (st' := [aI (8 : Int), aI s]) (S' := S) rfl ?_
    refine es_icmp rfl 44 rfl ⟨by omega, by omega⟩ ⟨by decide, by decide⟩ (fun (g10 : (8 : Int) ≤ s) => ?_) (fun (g10 : ¬ ((8 : Int) ≤ s)) => ?_)
    · refine es_s0 1 (pc' := 46) (ls' := [some (aR 6 (0 : Int)), some (aI l), some (aR 15 (0 : Int)), some (aI np), some (aI m), some (aI s)]) (st' := [aI m]) (S' := S) rfl ?_
      refine es_iret rfl rfl rfl (Or.inl rfl) ?_
      have e : s = 8 := by omega
      subst e
      exact h m hm hb
    · refine es_s0 6 (pc' := 21) (ls' := [some (aR 6 (0 : Int)), some (aI l), some (aR 15 (0 : Int)), some (aI np), some (aI m), some (aI s)]) (st' := [aI ((l * 8) + s), aR 6 (0 : Int)]) (S' := S) rfl ?_
      refine es_s0 2 (pc' := 23) (ls' := [some (aR 6 (0 : Int)), some (aI l), some (aR 15 (0 : Int)), some (aI np), some (aI m), some (aI s)]) (st' := [aI np, aR 15 (0 : Int), aI ((l * 8) + s), aR 6 (0 : Int)]) (S' := S) rfl ?_
      refine es_callV rfl rfl 6 (0 : Int) [aI ((l * 8) + s), aR 15 (0 : Int), aI np] [] rfl rfl rfl rfl (Nat.le_of_ble_eq_true rfl) (Nat.le_of_ble_eq_true rfl) (Nat.le_of_ble_eq_true rfl) ?_
      refine m97 hW hL (a := l * 8 + s) (q := ow W l) (s := s) (by omega) hnp (hS.2 s (by omega) (by omega)).1 (hS.2 s (by omega) (by omega)).2.1 (hS.2 s (by omega) (by omega)).2.2.1 (hS.2 s (by omega) (by omega)).2.2.2 (fun hc23 => ?_) (fun hc23 => ?_)
      · show Es G 98 26 [some (aR 6 (0 : Int)), some (aI l), some (aR 15 (0 : Int)), some (aI np), some (aI m), some (aI s)] [aI (1 : Int)] S _ _
        refine es_if rfl 38 rfl ⟨by decide, by decide⟩ (fun (g26 : (1 : Int) = (0 : Int)) => absurd g26 (by decide)) (fun (g26 : ¬ ((1 : Int) = (0 : Int))) => ?_)
        refine es_s0 6 (pc' := 38) (ls' := [some (aR 6 (0 : Int)), some (aI l), some (aR 15 (0 : Int)), some (aI np), some (aI (aOr m (aShl (1 : Int) s))), some (aI s)]) (st' := []) (S' := S) rfl ?_
        refine es_s0 2 (pc' := 6) (ls' := [some (aR 6 (0 : Int)), some (aI l), some (aR 15 (0 : Int)), some (aI np), some (aI (aOr m (aShl (1 : Int) s))), some (aI (s + 1))]) (st' := []) (S' := S) rfl ?_
        exact ih (n - 1) (by omega) (s + 1) _ (by omega) (by omega) (r32_of _) (hb.put (by omega) hc23)
      · show Es G 98 26 [some (aR 6 (0 : Int)), some (aI l), some (aR 15 (0 : Int)), some (aI np), some (aI m), some (aI s)] [aI (0 : Int)] S _ _
        refine es_if rfl 38 rfl ⟨by decide, by decide⟩ (fun (g26 : (0 : Int) = (0 : Int)) => ?_) (fun (g26 : ¬ ((0 : Int) = (0 : Int))) => absurd g26 (by decide))
        refine es_s0 2 (pc' := 6) (ls' := [some (aR 6 (0 : Int)), some (aI l), some (aR 15 (0 : Int)), some (aI np), some (aI m), some (aI (s + 1))]) (st' := []) (S' := S) rfl ?_
        exact ih (n - 1) (by omega) (s + 1) _ (by omega) (by omega) hm (hb.skip hc23)
theorem m98 {G : Gw} {S : Sg} {k : Nat} {Q : AQ} {W : Sg} (hW : WI W) (hL : Lk W S) {l np : Int} (hl : 0 ≤ l ∧ l < 5) (hnp : np = W 0 0 5) (hS : ShL W S l) (h : ∀ m, r32 m → Bs (frL W l) m 8 → Q (.inl (some (aI m))) S)  : Es G 98 0 (aEnt 6 [aR 6 (0 : Int), aI l, aR 15 (0 : Int), aI np]) [] S (k + 2) Q := by
  refine es_rg (fun hg1 => ?_)
  refine es_s0 4 (pc' := 6) (ls' := [some (aR 6 (0 : Int)), some (aI l), some (aR 15 (0 : Int)), some (aI np), some (aI (0 : Int)), some (aI (0 : Int))]) (st' := []) (S' := S) rfl ?_
  exact m98_l hW hL hl hnp hS h 8 0 0 (by omega) (by omega) ⟨by decide, by decide⟩ Bs.z
theorem m99_l {G : Gw} {S : Sg} {k : Nat} {Q : AQ} {W : Sg} {a l q s : Int} (ha : 0 ≤ a ∧ a < 40) (hl : 0 ≤ l ∧ l < 5) (hS : ShL W S l) (e7 : S 7 0 a = lbX W q s) (e8 : S 8 0 a = lbY W q s) (e9 : S 9 0 a = lbX W q s + W 1 q 9) (e10 : S 10 0 a = lbY W q s + W 1 q 10) (h : ∀ m, r32 m → Bs (mtP W q s (ow W l)) m 8 → Q (.inl (some (aI m))) S) : ∀ (n : Nat) (t m : Int) (o : Option AV) (_ : 0 ≤ t) (_ : t + n = 8) (_ : r32 m) (_ : Bs (mtP W q s (ow W l)) m t), Es G 99 5 [some (aR 6 (0 : Int)), some (aI a), some (aI l), some (aI m), some (aI t), o] [] S (k + 0) Q := by
  intro n
  induction n using Nat.strongRecOn with
  | _ n ih =>
    intro t m o ht hn hm hb
    refine es_rg (fun hg1 => ?_)
    refine es_s0 2 (pc' := 9) (ls' := [some (aR 6 (0 : Int)), some (aI a), some (aI l), some (aI m), some (aI t), o]) (st' := [aI (8 : Int), aI t]) (S' := S) rfl ?_
    refine es_icmp rfl 102 rfl ⟨by omega, by omega⟩ ⟨by decide, by decide⟩ (fun (g9 : (8 : Int) ≤ t) => ?_) (fun (g9 : ¬ ((8 : Int) ≤ t)) => ?_)
    · refine es_s0 1 (pc' := 103) (ls' := [some (aR 6 (0 : Int)), some (aI a), some (aI l), some (aI m), some (aI t), o]) (st' := [aI m]) (S' := S) rfl ?_
      refine es_iret rfl rfl rfl (Or.inl rfl) ?_
      have e : t = 8 := by omega
      subst e
      exact h m hm hb
    · have hz := hS.2 t (by omega) (by omega)
      refine es_s0 6 (pc' := 21) (ls' := [some (aR 6 (0 : Int)), some (aI a), some (aI l), some (aI m), some (aI t), some (aI ((l * 8) + t))]) (st' := []) (S' := S) rfl ?_
      refine es_sg 6 (p := ((0 : Int) = 0) ∧ ((((0 : Int) = 0) ∧ (0 ≤ a ∧ a < 40)) ∧ ((0 : Int) = 0))) (pc' := 31) (ls' := [some (aR 6 (0 : Int)), some (aI a), some (aI l), some (aI m), some (aI t), some (aI ((l * 8) + t))]) (st' := [aR 9 (0 : Int), aL (S 7 0 a)]) (S' := S) rfl ⟨rfl, ⟨rfl, (by omega)⟩, rfl⟩ ?_
      refine es_sg 2 (p := ((0 : Int) = 0) ∧ (0 ≤ ((l * 8) + t) ∧ ((l * 8) + t) < 40)) (pc' := 34) (ls' := [some (aR 6 (0 : Int)), some (aI a), some (aI l), some (aI m), some (aI t), some (aI ((l * 8) + t))]) (st' := [aL (S 9 0 ((l * 8) + t)), aL (S 7 0 a)]) (S' := S) rfl ⟨rfl, (by omega)⟩ ?_
      refine es_lif rfl rfl 96 rfl (rgL hg1 (t := 7) (i := (0 : Int)) (q := a) (by omega : 0 ≤ (0 : Int) ∧ (0 : Int) < 1) (by omega) rfl) (rgL hg1 (t := 9) (i := (0 : Int)) (q := ((l * 8) + t)) (by omega : 0 ≤ (0 : Int) ∧ (0 : Int) < 1) (by omega) rfl) (fun (g34 : (S 9 0 ((l * 8) + t)) ≤ (S 7 0 a)) => ?_) (fun (g34 : ¬ ((S 9 0 ((l * 8) + t)) ≤ (S 7 0 a))) => ?_)
      · refine es_s0 2 (pc' := 5) (ls' := [some (aR 6 (0 : Int)), some (aI a), some (aI l), some (aI m), some (aI (t + 1)), some (aI ((l * 8) + t))]) (st' := []) (S' := S) rfl ?_
        exact ih (n - 1) (by omega) (t + 1) _ _ (by omega) (by omega) hm (hb.skip (by unfold mtP; omega))
      · refine es_sg 6 (p := ((0 : Int) = 0) ∧ ((((0 : Int) = 0) ∧ (0 ≤ ((l * 8) + t) ∧ ((l * 8) + t) < 40)) ∧ ((0 : Int) = 0))) (pc' := 49) (ls' := [some (aR 6 (0 : Int)), some (aI a), some (aI l), some (aI m), some (aI t), some (aI ((l * 8) + t))]) (st' := [aR 9 (0 : Int), aL (S 7 0 ((l * 8) + t))]) (S' := S) rfl ⟨rfl, ⟨rfl, (by omega)⟩, rfl⟩ ?_
        refine es_sg 2 (p := ((0 : Int) = 0) ∧ (0 ≤ a ∧ a < 40)) (pc' := 51) (ls' := [some (aR 6 (0 : Int)), some (aI a), some (aI l), some (aI m), some (aI t), some (aI ((l * 8) + t))]) (st' := [aL (S 9 0 a), aL (S 7 0 ((l * 8) + t))]) (S' := S) rfl ⟨rfl, (by omega)⟩ ?_
        refine es_lif rfl rfl 96 rfl (rgL hg1 (t := 7) (i := (0 : Int)) (q := ((l * 8) + t)) (by omega : 0 ≤ (0 : Int) ∧ (0 : Int) < 1) (by omega) rfl) (rgL hg1 (t := 9) (i := (0 : Int)) (q := a) (by omega : 0 ≤ (0 : Int) ∧ (0 : Int) < 1) (by omega) rfl) (fun (g51 : (S 9 0 a) ≤ (S 7 0 ((l * 8) + t))) => ?_) (fun (g51 : ¬ ((S 9 0 a) ≤ (S 7 0 ((l * 8) + t)))) => ?_)
        · refine es_s0 2 (pc' := 5) (ls' := [some (aR 6 (0 : Int)), some (aI a), some (aI l), some (aI m), some (aI (t + 1)), some (aI ((l * 8) + t))]) (st' := []) (S' := S) rfl ?_
          exact ih (n - 1) (by omega) (t + 1) _ _ (by omega) (by omega) hm (hb.skip (by unfold mtP; omega))
        · refine es_sg 6 (p := ((0 : Int) = 0) ∧ ((((0 : Int) = 0) ∧ (0 ≤ a ∧ a < 40)) ∧ ((0 : Int) = 0))) (pc' := 65) (ls' := [some (aR 6 (0 : Int)), some (aI a), some (aI l), some (aI m), some (aI t), some (aI ((l * 8) + t))]) (st' := [aR 10 (0 : Int), aL (S 8 0 a)]) (S' := S) rfl ⟨rfl, ⟨rfl, (by omega)⟩, rfl⟩ ?_
          refine es_sg 2 (p := ((0 : Int) = 0) ∧ (0 ≤ ((l * 8) + t) ∧ ((l * 8) + t) < 40)) (pc' := 68) (ls' := [some (aR 6 (0 : Int)), some (aI a), some (aI l), some (aI m), some (aI t), some (aI ((l * 8) + t))]) (st' := [aL (S 10 0 ((l * 8) + t)), aL (S 8 0 a)]) (S' := S) rfl ⟨rfl, (by omega)⟩ ?_
          refine es_lif rfl rfl 96 rfl (rgL hg1 (t := 8) (i := (0 : Int)) (q := a) (by omega : 0 ≤ (0 : Int) ∧ (0 : Int) < 1) (by omega) rfl) (rgL hg1 (t := 10) (i := (0 : Int)) (q := ((l * 8) + t)) (by omega : 0 ≤ (0 : Int) ∧ (0 : Int) < 1) (by omega) rfl) (fun (g68 : (S 10 0 ((l * 8) + t)) ≤ (S 8 0 a)) => ?_) (fun (g68 : ¬ ((S 10 0 ((l * 8) + t)) ≤ (S 8 0 a))) => ?_)
          · refine es_s0 2 (pc' := 5) (ls' := [some (aR 6 (0 : Int)), some (aI a), some (aI l), some (aI m), some (aI (t + 1)), some (aI ((l * 8) + t))]) (st' := []) (S' := S) rfl ?_
            exact ih (n - 1) (by omega) (t + 1) _ _ (by omega) (by omega) hm (hb.skip (by unfold mtP; omega))
          · refine es_sg 6 (p := ((0 : Int) = 0) ∧ ((((0 : Int) = 0) ∧ (0 ≤ ((l * 8) + t) ∧ ((l * 8) + t) < 40)) ∧ ((0 : Int) = 0))) (pc' := 83) (ls' := [some (aR 6 (0 : Int)), some (aI a), some (aI l), some (aI m), some (aI t), some (aI ((l * 8) + t))]) (st' := [aR 10 (0 : Int), aL (S 8 0 ((l * 8) + t))]) (S' := S) rfl ⟨rfl, ⟨rfl, (by omega)⟩, rfl⟩ ?_
            refine es_sg 2 (p := ((0 : Int) = 0) ∧ (0 ≤ a ∧ a < 40)) (pc' := 85) (ls' := [some (aR 6 (0 : Int)), some (aI a), some (aI l), some (aI m), some (aI t), some (aI ((l * 8) + t))]) (st' := [aL (S 10 0 a), aL (S 8 0 ((l * 8) + t))]) (S' := S) rfl ⟨rfl, (by omega)⟩ ?_
            refine es_lif rfl rfl 96 rfl (rgL hg1 (t := 8) (i := (0 : Int)) (q := ((l * 8) + t)) (by omega : 0 ≤ (0 : Int) ∧ (0 : Int) < 1) (by omega) rfl) (rgL hg1 (t := 10) (i := (0 : Int)) (q := a) (by omega : 0 ≤ (0 : Int) ∧ (0 : Int) < 1) (by omega) rfl) (fun (g85 : (S 10 0 a) ≤ (S 8 0 ((l * 8) + t))) => ?_) (fun (g85 : ¬ ((S 10 0 a) ≤ (S 8 0 ((l * 8) + t)))) => ?_)
            · refine es_s0 2 (pc' := 5) (ls' := [some (aR 6 (0 : Int)), some (aI a), some (aI l), some (aI m), some (aI (t + 1)), some (aI ((l * 8) + t))]) (st' := []) (S' := S) rfl ?_
              exact ih (n - 1) (by omega) (t + 1) _ _ (by omega) (by omega) hm (hb.skip (by unfold mtP; omega))
            · refine es_s0 6 (pc' := 96) (ls' := [some (aR 6 (0 : Int)), some (aI a), some (aI l), some (aI (aOr m (aShl (1 : Int) t))), some (aI t), some (aI ((l * 8) + t))]) (st' := []) (S' := S) rfl ?_
              refine es_s0 2 (pc' := 5) (ls' := [some (aR 6 (0 : Int)), some (aI a), some (aI l), some (aI (aOr m (aShl (1 : Int) t))), some (aI (t + 1)), some (aI ((l * 8) + t))]) (st' := []) (S' := S) rfl ?_
              exact ih (n - 1) (by omega) (t + 1) _ _ (by omega) (by omega) (r32_of _) (hb.put (by omega) (by unfold mtP; omega))
theorem m99 {G : Gw} {S : Sg} {k : Nat} {Q : AQ} {W : Sg} {a l q s : Int} (ha : 0 ≤ a ∧ a < 40) (hl : 0 ≤ l ∧ l < 5) (hS : ShL W S l) (e7 : S 7 0 a = lbX W q s) (e8 : S 8 0 a = lbY W q s) (e9 : S 9 0 a = lbX W q s + W 1 q 9) (e10 : S 10 0 a = lbY W q s + W 1 q 10) (h : ∀ m, r32 m → Bs (mtP W q s (ow W l)) m 8 → Q (.inl (some (aI m))) S)  : Es G 99 0 (aEnt 6 [aR 6 (0 : Int), aI a, aI l]) [] S (k + 0) Q := by
  refine es_rg (fun hg1 => ?_)
  refine es_s0 4 (pc' := 5) (ls' := [some (aR 6 (0 : Int)), some (aI a), some (aI l), some (aI (0 : Int)), some (aI (0 : Int)), none]) (st' := []) (S' := S) rfl ?_
  exact m99_l ha hl hS e7 e8 e9 e10 h 8 0 0 _ (by omega) (by omega) ⟨by decide, by decide⟩ Bs.z
