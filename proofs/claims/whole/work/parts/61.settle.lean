/-! THE CLASS: labels are given their spots -/
def spF (W : Sg) (D : Int → Int) (n : Int) : Sg := fun t i j => if t = 1 ∧ j = 11 ∧ (0 ≤ i ∧ i < n) ∧ W 1 i 8 = 1 then D (lbc W i) else W t i j
theorem spF_t {W : Sg} {D : Int → Int} {n : Int} {t : Nat} (h : ¬ t = 1) : spF W D n t = W t := by
  funext i j
  unfold spF
  rw [if_neg (fun q => h q.1)]
theorem spF_j {W : Sg} {D : Int → Int} {n i j : Int} (h : ¬ j = 11) : spF W D n 1 i j = W 1 i j := by
  unfold spF
  rw [if_neg (fun q => h q.2.1)]
theorem spF_11 {W : Sg} {D : Int → Int} {n i : Int} (h : 0 ≤ i ∧ i < n) (hl : W 1 i 8 = 1) : spF W D n 1 i 11 = D (lbc W i) := by
  unfold spF
  rw [if_pos ⟨rfl, rfl, h, hl⟩]
theorem spF_ext {W : Sg} {D E : Int → Int} {n : Int} (h : ∀ i, 0 ≤ i → i < n → W 1 i 8 = 1 → D (lbc W i) = E (lbc W i)) : spF W D n = spF W E n := by
  funext t i j
  unfold spF
  by_cases e : t = 1 ∧ j = 11 ∧ (0 ≤ i ∧ i < n) ∧ W 1 i 8 = 1
  · rw [if_pos e, if_pos e]
    exact h i e.2.2.1.1 e.2.2.1.2 e.2.2.2
  · rw [if_neg e, if_neg e]
theorem spF_z {W : Sg} {D : Int → Int} : spF W D 0 = W := by
  funext t i j
  unfold spF
  rw [if_neg (fun q => by omega)]
theorem spF_skip {W : Sg} {D : Int → Int} {p n : Int} (hp : p ≤ n) (h : ∀ i, 0 ≤ i → p ≤ i → i < n → ¬ W 1 i 8 = 1) : spF W D n = spF W D p := by
  funext t i j
  unfold spF
  by_cases e : t = 1 ∧ j = 11 ∧ (0 ≤ i ∧ i < n) ∧ W 1 i 8 = 1
  · have : i < p := by
      by_cases q : i < p
      · exact q
      · exact absurd e.2.2.2 (h i e.2.2.1.1 (by omega) e.2.2.1.2)
    rw [if_pos e, if_pos ⟨e.1, e.2.1, ⟨e.2.2.1.1, this⟩, e.2.2.2⟩]
  · rw [if_neg e, if_neg (fun q => e ⟨q.1, q.2.1, ⟨q.2.2.1.1, by omega⟩, q.2.2.2⟩)]
theorem spF_put {W S : Sg} {D : Int → Int} {p v : Int} (h : Lk (spF W D p) S) (hp : 0 ≤ p) (hl : W 1 p 8 = 1) (hv : v = D (lbc W p)) : Lk (spF W D (p + 1)) (su S 1 p 11 v) := by
  intro t ht
  by_cases e : t = 1
  · subst e
    funext i j
    by_cases q : j = 11 ∧ i = p
    · obtain ⟨rfl, rfl⟩ := q
      rw [su_eq, if_pos rfl, spF_11 (by omega) hl, hv]
    · rw [suO (fun _ a b => q ⟨a, b⟩), h 1 (by decide)]
      unfold spF
      by_cases g : (1 : Nat) = 1 ∧ j = 11 ∧ (0 ≤ i ∧ i < p) ∧ W 1 i 8 = 1
      · rw [if_pos g, if_pos ⟨rfl, g.2.1, by omega, g.2.2.2⟩]
      · rw [if_neg g, if_neg (fun k => g ⟨rfl, k.2.1, ⟨k.2.2.1.1, by have := k.2.2.1.2; have : ¬ i = p := fun z => q ⟨k.2.1, z⟩; omega⟩, k.2.2.2⟩)]
  · rw [su_tt _ e, h t ht, spF_t e, spF_t e]
theorem m103_l {G : Gw} {S0 : Sg} {k : Nat} {Q : AQ} {W : Sg} {D : Int → Int} (hW : WI W) {np : Int} (hnp : np = W 0 0 5) (h : ∀ S' : Sg, Lk (spF W D (W 0 0 5)) S' → Fr S0 S' → Q (.inl none) S') : ∀ (n : Nat) (S : Sg) (p : Int) (_ : 0 ≤ p) (_ : p + n = W 0 0 5) (_ : Lk (spF W D p) S) (_ : Fr S0 S) (_ : S 6 0 8 = labC W) (_ : ∀ l, 0 ≤ l → l < labC W → S 14 0 l = D l), Es G 103 5 [some (aR 6 (0 : Int)), some (aR 15 (0 : Int)), some (aI np), some (aI (lbc W p)), some (aI p)] [] S (k + 0) Q := by
  intro n
  induction n using Nat.strongRecOn with
  | _ n ih =>
    intro S p hp hn hL hF e6 h14
    have h05 := hW.1
    have e18 : S 1 p 8 = W 1 p 8 := by rw [hL 1 (by decide)]; exact spF_j (by decide)
    have hnn := lbc_nn (A := W) (p := p)
    have hl5 := hW.2.2.2
    have hlm : lbc W p ≤ labC W := by rw [← hW.n]; exact lbc_mono hp (by omega)
    refine es_rg (fun hgz => ?_)
    have hz : p < 60 → S 1 p 8 = 0 ∨ S 1 p 8 = 1 := fun q => rgZ hgz (t := 1) (i := p) (q := 8) (by omega : 0 ≤ p ∧ p < 60) (by omega) rfl
    refine es_rg (fun hg1 => ?_)
    refine es_s0 2 (pc' := 8) (ls' := [some (aR 6 (0 : Int)), some (aR 15 (0 : Int)), some (aI np), some (aI (lbc W p)), some (aI p)]) (st' := [aI np, aI p]) (S' := S) rfl ?_
    refine es_icmp rfl 51 rfl ⟨by omega, by omega⟩ ⟨by omega, by omega⟩ (fun (g8 : np ≤ p) => ?_) (fun (g8 : ¬ (np ≤ p)) => ?_)
    · refine es_vret rfl ?_
      first
        | (have e : p = W 0 0 5 := by omega
           subst e
           exact h S hL hF)
        | (refine h S ?_ hF
           rw [spF_skip (p := p) (by omega) (fun i a b c g => by
             have q1 := hW.lt (p := i) (by omega) g
             have q2 := lbc_mono (A := W) hp b
             omega)]
           exact hL)
    · refine es_sg 3 (p := (0 : Int) = 0) (pc' := 16) (ls' := [some (aR 6 (0 : Int)), some (aR 15 (0 : Int)), some (aI np), some (aI (lbc W p)), some (aI p)]) (st' := [aI (S 6 0 8), aI (lbc W p)]) (S' := S) rfl rfl ?_
      refine es_icmp rfl 51 rfl ⟨by omega, by omega⟩ (rgI hg1 (t := 6) (i := (0 : Int)) (q := (8 : Int)) (by omega : 0 ≤ (0 : Int) ∧ (0 : Int) < 1) (by omega) rfl) (fun (g16 : (S 6 0 8) ≤ (lbc W p)) => ?_) (fun (g16 : ¬ ((S 6 0 8) ≤ (lbc W p))) => ?_)
      · refine es_vret rfl ?_
        first
          | (have e : p = W 0 0 5 := by omega
             subst e
             exact h S hL hF)
          | (refine h S ?_ hF
             rw [spF_skip (p := p) (by omega) (fun i a b c g => by
               have q1 := hW.lt (p := i) (by omega) g
               have q2 := lbc_mono (A := W) hp b
               omega)]
             exact hL)
      · refine es_sg 4 (p := (((0 : Int) = 0) ∧ (0 ≤ p ∧ p < 60)) ∧ (0 ≤ p ∧ p < 60)) (pc' := 26) (ls' := [some (aR 6 (0 : Int)), some (aR 15 (0 : Int)), some (aI np), some (aI (lbc W p)), some (aI p)]) (st' := [aI (S 1 p 8)]) (S' := S) rfl ⟨⟨rfl, (by omega)⟩, (by omega)⟩ ?_
        refine es_if rfl 45 rfl (r32_z (rgZ hg1 (t := 1) (i := p) (q := (8 : Int)) (by omega : 0 ≤ p ∧ p < 60) (by omega) rfl)) (fun (g26 : (S 1 p 8) = (0 : Int)) => ?_) (fun (g26 : ¬ ((S 1 p 8) = (0 : Int))) => ?_)
        · refine es_s0 2 (pc' := 5) (ls' := [some (aR 6 (0 : Int)), some (aR 15 (0 : Int)), some (aI np), some (aI (lbc W p)), some (aI (p + 1))]) (st' := []) (S' := S) rfl ?_
          rw [← lbc_s0 (A := W) hp (show ¬ W 1 p 8 = 1 from by omega)]
          have hsk : spF W D (p + 1) = spF W D p := spF_skip (by omega) (fun i a b c => by
            have e : i = p := by omega
            subst e
            omega)
          rw [← hsk] at hL
          exact ih (n - 1) (by omega) S (p + 1) (by omega) (by omega) hL hF e6 h14
        · refine es_sg 6 (p := (((0 : Int) = 0) ∧ (0 ≤ p ∧ p < 60)) ∧ ((0 : Int) = 0)) (pc' := 38) (ls' := [some (aR 6 (0 : Int)), some (aR 15 (0 : Int)), some (aI np), some (aI (lbc W p)), some (aI p)]) (st' := [aI (lbc W p), aR 14 (0 : Int), aR 1 p]) (S' := S) rfl ⟨⟨rfl, (by omega)⟩, rfl⟩ ?_
          refine es_sg 2 (p := (((0 : Int) = 0) ∧ (0 ≤ (lbc W p) ∧ (lbc W p) < 5)) ∧ ((0 ≤ p ∧ p < 60) ∧ (r32 (S 14 0 (lbc W p))))) (pc' := 42) (ls' := [some (aR 6 (0 : Int)), some (aR 15 (0 : Int)), some (aI np), some (aI (lbc W p)), some (aI p)]) (st' := []) (S' := su S 1 p 11 (S 14 0 (lbc W p))) rfl ⟨⟨rfl, (by omega)⟩, ⟨(by omega), (rgI hg1 (t := 14) (i := (0 : Int)) (q := (lbc W p)) (by omega : 0 ≤ (0 : Int) ∧ (0 : Int) < 1) (by omega) rfl)⟩⟩ ?_
          refine es_rg (fun hg2 => ?_)
          refine es_s0 3 (pc' := 5) (ls' := [some (aR 6 (0 : Int)), some (aR 15 (0 : Int)), some (aI np), some (aI ((lbc W p) + 1)), some (aI (p + 1))]) (st' := []) (S' := su S 1 p 11 (S 14 0 (lbc W p))) rfl ?_
          have hlt := hW.lt (p := p) (by omega) (by omega)
          have h4 := h14 (lbc W p) hnn hlt
          rw [← lbc_s1 (A := W) hp (show W 1 p 8 = 1 from by omega)]
          exact ih (n - 1) (by omega) _ (p + 1) (by omega) (by omega) (spF_put hL hp (by omega) h4) (hF.put (by decide)) e6 h14
theorem m103 {G : Gw} {S : Sg} {k : Nat} {Q : AQ} {W : Sg} {D : Int → Int} (hW : WI W) {np : Int} (hnp : np = W 0 0 5) (h : ∀ S' : Sg, Lk (spF W D (W 0 0 5)) S' → Fr S S' → Q (.inl none) S') (hL : Lk W S) (e6 : S 6 0 8 = labC W) (h14 : ∀ l, 0 ≤ l → l < labC W → S 14 0 l = D l)  : Es G 103 0 (aEnt 5 [aR 6 (0 : Int), aR 15 (0 : Int), aI np]) [] S (k + 0) Q := by
  refine es_rg (fun hg1 => ?_)
  refine es_s0 4 (pc' := 5) (ls' := [some (aR 6 (0 : Int)), some (aR 15 (0 : Int)), some (aI np), some (aI (0 : Int)), some (aI (0 : Int))]) (st' := []) (S' := S) rfl ?_
  exact m103_l hW hnp h (W 0 0 5).toNat S 0 (by omega) (by have := hW.1; omega) (by rw [spF_z]; exact hL) (Fr.rf S) e6 h14
abbrev oW (W : Sg) (D : Int → Int) : Prop := Opt (frL W) (mtL W) (ctL W) (labC W).toNat D
theorem labC_n (W : Sg) : 0 ≤ labC W ∧ labC W ≤ 60 := cntF_b _ _ _
theorem m102s {G : Gw} {S : Sg} {k : Nat} {Q : AQ} {W : Sg} {nn ch : Int} (hn : 0 ≤ nn ∧ nn ≤ 5) (hch : 0 ≤ ch ∧ ch ≤ 5) (hT : Tb W S nn) (hR : Row W S (fun _ => 0) nn 0)
    (h1 : ∀ S' : Sg, Kc S S' 0 → vW W nn (S' 14 0) → cW W (S' 14 0) nn.toNat 0 ≤ ch → (∀ d, vW W nn d → cW W d nn.toNat 0 ≤ ch → vl (S' 14 0) nn.toNat ≤ vl d nn.toNat) → Q (.inl (some (aI 1))) S')
    (h0 : ∀ S' : Sg, Kc S S' 0 → (∀ d, vW W nn d → ¬ cW W d nn.toNat 0 ≤ ch) → Q (.inl (some (aI 0))) S') : Es G 102 0 (aEnt 6 [aR 6 (0 : Int), aI (0 : Int), aI ch]) [] S (k + 5) Q := by
  have e : k + 5 = (k + (5 - nn.toNat)) + nn.toNat := by omega
  rw [e]
  exact m102 hn.2 nn.toNat _ Q S 0 ch (fun _ => 0) ⟨Int.le_refl 0, by omega⟩ hch hT hR ⟨fun l a b => absurd b (by omega), fun l m a b c => absurd c (by omega)⟩ (fun i a b => absurd b (by omega)) (fun S' a b c d => h1 S' a b c (fun d' x y => d d' x (fun i i0 i1 => absurd i1 (by omega)) y)) (fun S' a b => h0 S' a (fun d x => b d x (fun i i0 i1 => absurd i1 (by omega))))
/-- the rows of spots that are free of parts, so far -/
def Op (W S : Sg) (l : Int) : Prop := ∀ m, 0 ≤ m → m < l → Bs (frL W m) (S 12 0 m) 8
theorem Lk.kc {W S S' : Sg} {l : Int} (h : Lk W S) (g : Kc S S' l) : Lk W S' := fun t ht => (g.1 t (by omega) (by omega)).trans (h t ht)
theorem Fr.kc {S0 S S' : Sg} {l : Int} (h : Fr S0 S) (g : Kc S S' l) : Fr S0 S' := fun t ht => (g.1 t (by omega) (by omega)).trans (h t ht)
theorem Lk.kf {W S S' : Sg} (h : Lk W S) (g : Kf S S') : Lk W S' := fun t ht => (g t (by omega)).trans (h t ht)
theorem Fr.kf {S0 S S' : Sg} (h : Fr S0 S) (g : Kf S S') : Fr S0 S' := fun t ht => (g t (by omega)).trans (h t ht)
theorem Op.row {W S : Sg} {n : Int} (h : Op W S n) : Row W S (fun _ => 0) n 0 := fun m a b t t0 t1 => by
  rw [show (0 : Int) * 5 + m = m from by omega, h m a b t t0 t1]
  constructor
  · intro g; exact ⟨⟨g.1, fun j a b => absurd b (by omega)⟩, g.2⟩
  · intro g; exact ⟨g.1.1, g.2⟩
theorem m104_b {G : Gw} {S0 : Sg} {k : Nat} {Q : AQ} {W : Sg} (hW : WI W) {np jj : Int} (hnp : np = W 0 0 5) (hjj : (0 ≤ jj ∧ jj < labC W) ∧ ∀ s, ctL W jj s = 0) (h1 : ∀ D, oW W D → ∀ S' : Sg, Lk (spF W D (W 0 0 5)) S' → Fr S0 S' → Q (.inl (some (aI 1))) S') (h0 : (∀ d, ¬ vW W (labC W) d) → ∀ S' : Sg, Lk W S' → Fr S0 S' → Q (.inl (some (aI 0))) S') : ∀ (n : Nat) (S : Sg) (ch : Int) (_ : 0 ≤ ch) (_ : ch + n = labC W) (_ : Lk W S) (_ : Fr S0 S) (_ : Tb W S (labC W)) (_ : Row W S (fun _ => 0) (labC W) 0) (_ : ∀ d, vW W (labC W) d → ch ≤ cW W d (labC W).toNat 0), Es G 104 52 [some (aR 6 (0 : Int)), some (aR 15 (0 : Int)), some (aI np), some (aI ch)] [] S (k + 6) Q := by
  intro n
  induction n using Nat.strongRecOn with
  | _ n ih =>
    intro S ch hch hn hL hF hT hR hD
    have hl5 := hW.2.2.2
    have hln := labC_n W
    have e6 := hT.1
    have h05 := hW.1
    have en : (((labC W).toNat : Nat) : Int) = labC W := by omega
    refine es_rg (fun hg1 => ?_)
    refine es_sg 3 (p := (0 : Int) = 0) (pc' := 57) (ls' := [some (aR 6 (0 : Int)), some (aR 15 (0 : Int)), some (aI np), some (aI ch)]) (st' := [aI (S 6 0 8), aI ch]) (S' := S) rfl rfl ?_
    refine es_icmp rfl 83 rfl ⟨by omega, by omega⟩ (rgI hg1 (t := 6) (i := (0 : Int)) (q := (8 : Int)) (by omega : 0 ≤ (0 : Int) ∧ (0 : Int) < 1) (by omega) rfl) (fun (g57 : (S 6 0 8) ≤ ch) => ?_) (fun (g57 : ¬ ((S 6 0 8) ≤ ch)) => ?_)
    · refine es_s0 1 (pc' := 84) (ls' := [some (aR 6 (0 : Int)), some (aR 15 (0 : Int)), some (aI np), some (aI ch)]) (st' := [aI (0 : Int)]) (S' := S) rfl ?_
      refine es_iret rfl rfl rfl (Or.inr ⟨rfl, (by decide)⟩) ?_
      refine h0 (fun d hd => ?_) S hL hF
      have a1 := hD d hd
      have a2 := cs_free (d := d) (ctL_b W) hjj.2 (labC W).toNat 0 (by omega)
      replace a2 : cW W d (labC W).toNat 0 < ((labC W).toNat : Int) := a2
      omega
    · refine es_s0 3 (pc' := 63) (ls' := [some (aR 6 (0 : Int)), some (aR 15 (0 : Int)), some (aI np), some (aI ch)]) (st' := [aI ch, aI (0 : Int), aR 6 (0 : Int)]) (S' := S) rfl ?_
      refine es_callV rfl rfl 6 (0 : Int) [aI (0 : Int), aI ch] [] rfl rfl rfl rfl (Nat.le_of_ble_eq_true rfl) (Nat.le_of_ble_eq_true rfl) (Nat.le_of_ble_eq_true rfl) ?_
      refine m102s (S := S) (W := W) (nn := labC W) (by omega) (by omega) hT hR (fun S1 j1 j2 j3 j4 => ?_) (fun S1 j1 j2 => ?_)
      · show Es G 104 66 [some (aR 6 (0 : Int)), some (aR 15 (0 : Int)), some (aI np), some (aI ch)] [aI (1 : Int)] S1 _ _
        refine es_rg (fun hg2 => ?_)
        refine es_if rfl 77 rfl ⟨by decide, by decide⟩ (fun (g66 : (1 : Int) = (0 : Int)) => absurd g66 (by decide)) (fun (g66 : ¬ ((1 : Int) = (0 : Int))) => ?_)
        refine es_s0 3 (pc' := 72) (ls' := [some (aR 6 (0 : Int)), some (aR 15 (0 : Int)), some (aI np), some (aI ch)]) (st' := [aI np, aR 15 (0 : Int), aR 6 (0 : Int)]) (S' := S1) rfl ?_
        refine es_callV rfl rfl 6 (0 : Int) [aR 15 (0 : Int), aI np] [] rfl rfl rfl rfl (Nat.le_of_ble_eq_true rfl) (Nat.le_of_ble_eq_true rfl) (Nat.le_of_ble_eq_true rfl) ?_
        refine m103 (S := S1) (D := S1 14 0) hW hnp (fun S2 q1 q2 => ?_) (hL.kc j1) (hT.kc j1).1 (fun l a b => rfl)
        show Es G 104 75 [some (aR 6 (0 : Int)), some (aR 15 (0 : Int)), some (aI np), some (aI ch)] [] S2 _ _
        refine es_rg (fun hg3 => ?_)
        refine es_s0 1 (pc' := 76) (ls' := [some (aR 6 (0 : Int)), some (aR 15 (0 : Int)), some (aI np), some (aI ch)]) (st' := [aI (1 : Int)]) (S' := S2) rfl ?_
        refine es_iret rfl rfl rfl (Or.inr ⟨rfl, (by decide)⟩) ?_
        exact h1 (S1 14 0) ⟨by rw [en]; exact j2, fun d hd => by
          rw [en] at hd
          have a1 := hD d hd
          by_cases e : cW W d (labC W).toNat 0 ≤ ch
          · exact Or.inr ⟨by have a2 := hD _ j2; show cW W _ _ _ = cW W _ _ _; omega, j4 d hd e⟩
          · exact Or.inl (show cW W _ _ _ < cW W _ _ _ from by omega)⟩ S2 q1 ((hF.kc j1).tr q2)
      · show Es G 104 66 [some (aR 6 (0 : Int)), some (aR 15 (0 : Int)), some (aI np), some (aI ch)] [aI (0 : Int)] S1 _ _
        refine es_rg (fun hg4 => ?_)
        refine es_if rfl 77 rfl ⟨by decide, by decide⟩ (fun (g66 : (0 : Int) = (0 : Int)) => ?_) (fun (g66 : ¬ ((0 : Int) = (0 : Int))) => absurd g66 (by decide))
        refine es_s0 2 (pc' := 52) (ls' := [some (aR 6 (0 : Int)), some (aR 15 (0 : Int)), some (aI np), some (aI (ch + 1))]) (st' := []) (S' := S1) rfl ?_
        exact ih (n - 1) (by omega) S1 (ch + 1) (by omega) (by omega) (hL.kc j1) (hF.kc j1) (hT.kc j1) (hR.kc (by omega) j1) (fun d hd => by have a1 := j2 d hd; omega)
theorem m104_a {G : Gw} {S0 : Sg} {k : Nat} {Q : AQ} {W : Sg} (hW : WI W) {np jj : Int} (hnp : np = W 0 0 5) (hjj : (0 ≤ jj ∧ jj < labC W) ∧ ∀ s, ctL W jj s = 0) (h1 : ∀ D, oW W D → ∀ S' : Sg, Lk (spF W D (W 0 0 5)) S' → Fr S0 S' → Q (.inl (some (aI 1))) S') (h0 : (∀ d, ¬ vW W (labC W) d) → ∀ S' : Sg, Lk W S' → Fr S0 S' → Q (.inl (some (aI 0))) S') : ∀ (n : Nat) (S : Sg) (l : Int) (_ : 0 ≤ l) (_ : l + n = labC W) (_ : Lk W S) (_ : Fr S0 S) (_ : Sh W S (labC W)) (_ : Op W S l), Es G 104 8 [some (aR 6 (0 : Int)), some (aR 15 (0 : Int)), some (aI np), some (aI l)] [] S (k + 6) Q := by
  intro n
  induction n using Nat.strongRecOn with
  | _ n ih =>
    intro S l hl hn hL hF hS hO
    have hl5 := hW.2.2.2
    have hln := labC_n W
    have e6 := hS.1
    have h05 := hW.1
    refine es_rg (fun hg1 => ?_)
    refine es_sg 3 (p := (0 : Int) = 0) (pc' := 13) (ls' := [some (aR 6 (0 : Int)), some (aR 15 (0 : Int)), some (aI np), some (aI l)]) (st' := [aI (S 6 0 8), aI l]) (S' := S) rfl rfl ?_
    refine es_icmp rfl 46 rfl ⟨by omega, by omega⟩ (rgI hg1 (t := 6) (i := (0 : Int)) (q := (8 : Int)) (by omega : 0 ≤ (0 : Int) ∧ (0 : Int) < 1) (by omega) rfl) (fun (g13 : (S 6 0 8) ≤ l) => ?_) (fun (g13 : ¬ ((S 6 0 8) ≤ l)) => ?_)
    · refine es_s0 1 (pc' := 47) (ls' := [some (aR 6 (0 : Int)), some (aR 15 (0 : Int)), some (aI np), some (aI l)]) (st' := [aR 6 (0 : Int)]) (S' := S) rfl ?_
      refine es_callV rfl rfl 6 (0 : Int) [] [] rfl rfl rfl rfl (Nat.le_of_ble_eq_true rfl) (Nat.le_of_ble_eq_true rfl) (Nat.le_of_ble_eq_true rfl) ?_
      refine m100 (S := S) (W := W) (nn := labC W) (by omega) hS (fun S1 j1 j2 => ?_)
      show Es G 104 50 [some (aR 6 (0 : Int)), some (aR 15 (0 : Int)), some (aI np), some (aI l)] [] S1 _ _
      refine es_rg (fun hg2 => ?_)
      refine es_s0 2 (pc' := 52) (ls' := [some (aR 6 (0 : Int)), some (aR 15 (0 : Int)), some (aI np), some (aI (0 : Int))]) (st' := []) (S' := S1) rfl ?_
      exact m104_b hW hnp hjj h1 h0 (labC W).toNat S1 0 (by omega) (by omega) (hL.kf j1) (hF.kf j1) ⟨(hS.kf j1).1, j2, fun l a b => ((hS.kf j1).2 l a b).1⟩ (by
        have hO' : Op W S1 (labC W) := fun m a b => by rw [j1 12 (by decide)]; exact hO m a (by omega)
        exact hO'.row) (fun d hd => (cs_b (ctL_b W) _ _).1)
    · refine es_sg 6 (p := (0 : Int) = 0) (pc' := 24) (ls' := [some (aR 6 (0 : Int)), some (aR 15 (0 : Int)), some (aI np), some (aI l)]) (st' := [aR 15 (0 : Int), aI l, aR 6 (0 : Int), aI l, aR 12 (0 : Int)]) (S' := S) rfl rfl ?_
      refine es_s0 1 (pc' := 25) (ls' := [some (aR 6 (0 : Int)), some (aR 15 (0 : Int)), some (aI np), some (aI l)]) (st' := [aI np, aR 15 (0 : Int), aI l, aR 6 (0 : Int), aI l, aR 12 (0 : Int)]) (S' := S) rfl ?_
      refine es_callV rfl rfl 6 (0 : Int) [aI l, aR 15 (0 : Int), aI np] [aI l, aR 12 (0 : Int)] rfl rfl rfl rfl (Nat.le_of_ble_eq_true rfl) (Nat.le_of_ble_eq_true rfl) (Nat.le_of_ble_eq_true rfl) ?_
      refine m98 hW hL (l := l) (by omega) hnp (hS.2 l (by omega) (by omega)) (fun v hv hbs => ?_)
      show Es G 104 28 [some (aR 6 (0 : Int)), some (aR 15 (0 : Int)), some (aI np), some (aI l)] [aI v, aI l, aR 12 (0 : Int)] S _ _
      refine es_sg 1 (p := (((0 : Int) = 0) ∧ (0 ≤ l ∧ l < 30)) ∧ (r32 v)) (pc' := 29) (ls' := [some (aR 6 (0 : Int)), some (aR 15 (0 : Int)), some (aI np), some (aI l)]) (st' := []) (S' := su S 12 0 l v) rfl ⟨⟨rfl, (by omega)⟩, hv⟩ ?_
      refine es_rg (fun hg3 => ?_)
      refine es_sg 4 (p := ((0 : Int) = 0) ∧ (((0 : Int) = 0) ∧ (0 ≤ l ∧ l < 30))) (pc' := 35) (ls' := [some (aR 6 (0 : Int)), some (aR 15 (0 : Int)), some (aI np), some (aI l)]) (st' := [aI ((su S 12 0 l v) 12 0 l)]) (S' := su S 12 0 l v) rfl ⟨rfl, ⟨rfl, (by omega)⟩⟩ ?_
      refine es_if rfl 40 rfl (rgI hg3 (t := 12) (i := (0 : Int)) (q := l) (by omega : 0 ≤ (0 : Int) ∧ (0 : Int) < 1) (by omega) rfl) (fun (g35 : ¬ ((su S 12 0 l v) 12 0 l) = (0 : Int)) => ?_) (fun (g35 : ¬ (¬ ((su S 12 0 l v) 12 0 l) = (0 : Int))) => ?_)
      · refine es_s0 2 (pc' := 8) (ls' := [some (aR 6 (0 : Int)), some (aR 15 (0 : Int)), some (aI np), some (aI (l + 1))]) (st' := []) (S' := su S 12 0 l v) rfl ?_
        refine ih (n - 1) (by omega) _ (l + 1) (by omega) (by omega) (hL.put (by decide)) (hF.put (by decide)) ⟨hS.1, fun l' a b => (hS.2 l' a b).put (by omega) (by omega)⟩ (fun m a b => ?_)
        rw [suA]
        by_cases e : m = l
        · subst e; rw [if_pos rfl]; exact hbs
        · rw [if_neg e]; exact hO m a (by omega)
      · refine es_s0 1 (pc' := 39) (ls' := [some (aR 6 (0 : Int)), some (aR 15 (0 : Int)), some (aI np), some (aI l)]) (st' := [aI (0 : Int)]) (S' := su S 12 0 l v) rfl ?_
        refine es_iret rfl rfl rfl (Or.inr ⟨rfl, (by decide)⟩) ?_
        refine h0 (fun d hd => ?_) _ (hL.put (by decide)) (hF.put (by decide))
        have a1 := hd.1 l hl (by omega)
        have a2 := (hbs (d l) a1.1.1 a1.1.2).mpr ⟨a1.2, a1.1.2⟩
        have q : su S 12 0 l v 12 0 l = v := by rw [suA, if_pos rfl]
        rw [show v = 0 from by omega, b8_zero] at a2
        cases a2
theorem m104 {G : Gw} {S : Sg} {k : Nat} {Q : AQ} {W : Sg} (hW : WI W) {np jj : Int} (hnp : np = W 0 0 5) (hjj : (0 ≤ jj ∧ jj < labC W) ∧ ∀ s, ctL W jj s = 0) (h1 : ∀ D, oW W D → ∀ S' : Sg, Lk (spF W D (W 0 0 5)) S' → Fr S S' → Q (.inl (some (aI 1))) S') (h0 : (∀ d, ¬ vW W (labC W) d) → ∀ S' : Sg, Lk W S' → Fr S S' → Q (.inl (some (aI 0))) S') (hL : Lk W S)  : Es G 104 0 (aEnt 4 [aR 6 (0 : Int), aR 15 (0 : Int), aI np]) [] S (k + 6) Q := by
  have h05 := hW.1
  refine es_rg (fun hg1 => ?_)
  refine es_s0 3 (pc' := 3) (ls' := [some (aR 6 (0 : Int)), some (aR 15 (0 : Int)), some (aI np), none]) (st' := [aI np, aR 15 (0 : Int), aR 6 (0 : Int)]) (S' := S) rfl ?_
  refine es_callV rfl rfl 6 (0 : Int) [aR 15 (0 : Int), aI np] [] rfl rfl rfl rfl (Nat.le_of_ble_eq_true rfl) (Nat.le_of_ble_eq_true rfl) (Nat.le_of_ble_eq_true rfl) ?_
  refine m96 hW hL hnp (fun S1 j1 j2 j3 => ?_)
  show Es G 104 6 [some (aR 6 (0 : Int)), some (aR 15 (0 : Int)), some (aI np), none] [] S1 _ _
  refine es_rg (fun hg2 => ?_)
  refine es_s0 2 (pc' := 8) (ls' := [some (aR 6 (0 : Int)), some (aR 15 (0 : Int)), some (aI np), some (aI (0 : Int))]) (st' := []) (S' := S1) rfl ?_
  exact m104_a hW hnp hjj (fun D a S' b c => h1 D a S' b (j2.tr c)) (fun a S' b c => h0 a S' b (j2.tr c)) (labC W).toNat S1 0 (by omega) (by have := labC_n W; omega) j1 (Fr.rf _) j3 (fun m a b => absurd b (by omega))
/-! labels in the model -/
theorem CI.lab {A B : Sg} (h : CI A) (hs : ∀ (t : Nat) (i j : Int), (t = 1 → ¬ (8 ≤ j ∧ j ≤ 11)) → B t i j = A t i j) (hf : ∀ i, A 0 0 5 ≤ i → i < 60 → B 1 i 8 = A 1 i 8) (hl : CIl B) : CI B := by
  have e0 : B 0 = A 0 := by funext i j; exact hs 0 i j (fun q => absurd q (by decide))
  have e2 : B 2 = A 2 := by funext i j; exact hs 2 i j (fun q => absurd q (by decide))
  have e3 : B 3 = A 3 := by funext i j; exact hs 3 i j (fun q => absurd q (by decide))
  have f0 : ∀ i, B 1 i 0 = A 1 i 0 := fun i => hs 1 i 0 (by decide)
  have f1 : ∀ i, B 1 i 1 = A 1 i 1 := fun i => hs 1 i 1 (by decide)
  have f2 : ∀ i, B 1 i 2 = A 1 i 2 := fun i => hs 1 i 2 (by decide)
  have f3 : ∀ i, B 1 i 3 = A 1 i 3 := fun i => hs 1 i 3 (by decide)
  have f4 : ∀ i, B 1 i 4 = A 1 i 4 := fun i => hs 1 i 4 (by decide)
  have f5 : ∀ i, B 1 i 5 = A 1 i 5 := fun i => hs 1 i 5 (by decide)
  have f6 : ∀ i, B 1 i 6 = A 1 i 6 := fun i => hs 1 i 6 (by decide)
  have f7 : ∀ i, B 1 i 7 = A 1 i 7 := fun i => hs 1 i 7 (by decide)
  obtain ⟨h1, h2, h3, h4, h5, _⟩ := h
  refine ⟨?_, fun i i0 i1 => ?_, ?_, ?_, ?_, hl⟩
  · unfold CIn at h1 ⊢; rw [e0]; exact h1
  · have g := h2 i i0 i1
    refine ⟨?_, ?_, ?_, ?_⟩
    · have := g.1; unfold okXY at this ⊢; rw [f0, f1, f2, f3, f4]; exact this
    · rw [f5, f6, e0, e3]; exact g.2.1
    · rw [e0]; intro q; have := g.2.2.1 q; unfold fresh at this ⊢; rw [f2, f3, f4, f5, f6, f7, hf i q i1]; exact this
    · rw [f5, e2]; intro q; have := g.2.2.2 q; unfold near at this ⊢; rw [f2, f3]; exact this
  · simp only [CIc, okCh, e0, e2, e3, f5] at h3 ⊢; exact h3
  · simp only [CIm, e0, e2, e3, f5, f6] at h4 ⊢; exact h4
  · unfold CIt at h5 ⊢; rw [e0]; exact h5
theorem dropL_8 {A : Sg} {p i : Int} : dropL A p 1 i 8 = if i = p then 0 else A 1 i 8 := su_eq
theorem dropL_11 {A : Sg} {p i : Int} : dropL A p 1 i 11 = if i = p then -1 else A 1 i 11 := su_eq
theorem giveL_8 {A : Sg} {p w h i : Int} : giveL A p w h 1 i 8 = if i = p then 1 else A 1 i 8 := su_eq
theorem giveL_9 {A : Sg} {p w h i : Int} : giveL A p w h 1 i 9 = if i = p then w else A 1 i 9 := su_eq
theorem giveL_10 {A : Sg} {p w h i : Int} : giveL A p w h 1 i 10 = if i = p then h else A 1 i 10 := su_eq
theorem giveL_11 {A : Sg} {p w h i : Int} : giveL A p w h 1 i 11 = if i = p then -1 else A 1 i 11 := su_eq
theorem dropL_o {A : Sg} {p i j : Int} {t : Nat} (h : t = 1 → ¬ (8 ≤ j ∧ j ≤ 11)) : dropL A p t i j = A t i j := by
  unfold dropL
  rw [suO (fun a b _ => h a (by omega)), suO (fun a b _ => h a (by omega))]
theorem giveL_o {A : Sg} {p w hh i j : Int} {t : Nat} (h : t = 1 → ¬ (8 ≤ j ∧ j ≤ 11)) : giveL A p w hh t i j = A t i j := by
  unfold giveL
  rw [suO (fun a b _ => h a (by omega)), suO (fun a b _ => h a (by omega)), suO (fun a b _ => h a (by omega)), suO (fun a b _ => h a (by omega))]
theorem labC_drop {A : Sg} {p : Int} : labC (dropL A p) ≤ labC A := by
  by_cases e : (0 ≤ p ∧ p < 60) ∧ A 1 p 8 = 1
  · have := cntF_one (f := fun q => decide (dropL A p 1 q 8 = 1)) (g := fun q => decide (A 1 q 8 = 1)) 60 0 p (by omega) (by rw [dropL_8, if_pos rfl]; decide) (by simp [e.2]) (fun q hq => by rw [dropL_8, if_neg hq])
    unfold labC
    rw [this]
    omega
  · have : labC (dropL A p) = labC A := cntF_ext _ _ (fun q a b => by
      rw [dropL_8]
      by_cases z : q = p
      · subst z
        have : ¬ A 1 q 8 = 1 := fun k => e ⟨by omega, k⟩
        rw [if_pos rfl]
        simp [this]
      · rw [if_neg z])
    rw [this]
    exact Int.le_refl _
theorem labC_give {A : Sg} {p w h : Int} (hp : 0 ≤ p ∧ p < 60) (hl : ¬ A 1 p 8 = 1) : labC (giveL A p w h) = labC A + 1 :=
  cntF_one (f := fun q => decide (A 1 q 8 = 1)) (g := fun q => decide (giveL A p w h 1 q 8 = 1)) 60 0 p (by omega) (by simp [hl]) (by rw [giveL_8, if_pos rfl]; decide) (fun q hq => by rw [giveL_8, if_neg hq])
theorem CI.drop {A : Sg} (h : CI A) {p : Int} (hp : 0 ≤ p ∧ p < A 0 0 5) : CI (dropL A p) := by
  refine h.lab (fun t i j q => dropL_o q) (fun i a b => by rw [dropL_8, if_neg (by omega)]) ⟨fun i i0 i1 hi => ?_, ?_⟩
  · rw [dropL_8] at hi
    by_cases e : i = p
    · rw [if_pos e] at hi; omega
    · rw [if_neg e] at hi
      rw [dropL_11, if_neg e]
      exact h.2.2.2.2.2.1 i i0 i1 hi
  · have a := labC_drop (A := A) (p := p)
    have b := h.2.2.2.2.2.2
    omega
theorem CI.wi {A : Sg} (h : CI A) : WI A := by
  refine ⟨h.1.1, fun i i0 i1 => ⟨(h.2.1 i i0 i1).1, fun g => ?_⟩, fun i i0 i1 => ?_, h.2.2.2.2.2.2⟩
  · have := h.2.2.2.2.2.1 i i0 i1 g
    unfold okLb
    omega
  · have := (h.2.1 i (by have := h.1.1; omega) i1).2.2.1 i0
    unfold fresh at this
    omega
/-- a label that has no spot yet -/
theorem WI.give {A : Sg} (h : WI A) {p w hh : Int} (hp : 0 ≤ p ∧ p < A 0 0 5) (hl : ¬ A 1 p 8 = 1) (hn : labC A < 5) (hw : 1 ≤ w ∧ w ≤ 1000) (hh' : 1 ≤ hh ∧ hh ≤ 1000) : WI (giveL A p w hh) := by
  have h05 := h.1
  refine ⟨h.1, fun i i0 i1 => ⟨(h.2.1 i i0 i1).1, fun g => ?_⟩, fun i i0 i1 => ?_, ?_⟩
  · unfold okLb
    rw [giveL_8] at g
    rw [giveL_9, giveL_10, giveL_11]
    by_cases e : i = p
    · rw [if_pos e, if_pos e, if_pos e]; omega
    · rw [if_neg e] at g
      rw [if_neg e, if_neg e, if_neg e]
      exact (h.2.1 i i0 i1).2 g
  · rw [giveL_8, if_neg (by have : A 0 0 5 ≤ i := i0; omega)]
    exact h.2.2.1 i i0 i1
  · rw [labC_give (by omega) hl]
    omega
theorem give_free {A : Sg} {p w hh : Int} (hp : 0 ≤ p ∧ p < 60) : ∀ s, ctL (giveL A p w hh) (lbc (giveL A p w hh) p) s = 0 := fun s => by
  unfold ctL
  rw [ow_of hp (by rw [giveL_8, if_pos rfl]), giveL_11, if_pos rfl, if_pos (Or.inl rfl)]
theorem CI.spot {A : Sg} (h : CI A) {p w hh : Int} (hp : 0 ≤ p ∧ p < A 0 0 5) (hl : ¬ A 1 p 8 = 1) (hn : labC A < 5) (hw : 1 ≤ w ∧ w ≤ 1000) (hh' : 1 ≤ hh ∧ hh ≤ 1000) {D : Int → Int} (hD : Dg D (labC (giveL A p w hh))) : CI (spF (giveL A p w hh) D (A 0 0 5)) := by
  have h05 := h.1.1
  have hW := (h.wi).give hp hl hn hw hh'
  have e8 : ∀ i, spF (giveL A p w hh) D (A 0 0 5) 1 i 8 = giveL A p w hh 1 i 8 := fun i => spF_j (by decide)
  refine h.lab (fun t i j q => ?_) (fun i a b => by rw [e8, giveL_8, if_neg (by omega)]) ⟨fun i i0 i1 hi => ?_, ?_⟩
  · by_cases e : t = 1
    · subst e
      rw [spF_j (by have := q rfl; omega), giveL_o q]
    · rw [spF_t e, giveL_o q]
  · rw [e8] at hi
    have hi5 : i < A 0 0 5 := by
      by_cases q : i < A 0 0 5
      · exact q
      · exact absurd hi (hW.2.2.1 i (show A 0 0 5 ≤ i by omega) i1)
    rw [spF_11 ⟨i0, hi5⟩ hi, spF_j (by decide), spF_j (by decide), giveL_9, giveL_10]
    have := hD _ lbc_nn (hW.lt ⟨i0, i1⟩ hi)
    rw [giveL_8] at hi
    by_cases e : i = p
    · rw [if_pos e, if_pos e]
      omega
    · rw [if_neg e] at hi
      rw [if_neg e, if_neg e]
      have := h.2.2.2.2.2.1 i i0 i1 hi
      omega
  · have : labC (spF (giveL A p w hh) D (A 0 0 5)) = labC (giveL A p w hh) := cntF_ext _ _ (fun q _ _ => by rw [e8])
    rw [this]
    exact hW.2.2.2
theorem su_lk' {A S : Sg} (h : Lk A S) {t : Nat} {i j v : Int} : Lk (su A t i j v) (su S t i j v) := by
  intro t' ht
  by_cases e : t' = t
  · subst e
    funext i' j'
    unfold su
    rw [h t' ht]
  · rw [su_tt _ e, su_tt _ e, h t' ht]
theorem dropL_lk {A S : Sg} (h : Lk A S) {p : Int} : Lk (dropL A p) (dropL S p) := su_lk' (su_lk' h)
theorem giveL_lk {A S : Sg} (h : Lk A S) {p w hh : Int} : Lk (giveL A p w hh) (giveL S p w hh) := su_lk' (su_lk' (su_lk' (su_lk' h)))
theorem m105 {G : Gw} {S : Sg} {k : Nat} {Q : AQ} {A : Sg} (hL : Lk A S) (hA : CI A) {p w hh : Int} (hp : r32 p) (hw : r64 w) (hh' : r64 hh) (t1 : ¬ (0 ≤ p ∧ p < A 0 0 5) → Q (.inr 1) S) (t2 : (0 ≤ p ∧ p < A 0 0 5) ∧ ¬ ((1 ≤ w ∧ w ≤ 1000) ∧ (1 ≤ hh ∧ hh ≤ 1000)) → Q (.inr 0) S) (h1 : ((0 ≤ p ∧ p < A 0 0 5) ∧ ((1 ≤ w ∧ w ≤ 1000) ∧ (1 ≤ hh ∧ hh ≤ 1000))) ∧ 5 ≤ labC (dropL A p) → ∀ S' : Sg, Lk (dropL A p) S' → Fr S S' → Q (.inl (some (aI 1))) S') (h2 : ((0 ≤ p ∧ p < A 0 0 5) ∧ ((1 ≤ w ∧ w ≤ 1000) ∧ (1 ≤ hh ∧ hh ≤ 1000))) ∧ labC (dropL A p) < 5 → (∀ d, ¬ vW (giveL (dropL A p) p w hh) (labC (giveL (dropL A p) p w hh)) d) → ∀ S' : Sg, Lk (dropL (giveL (dropL A p) p w hh) p) S' → Fr S S' → Q (.inl (some (aI 1))) S') (h0 : ((0 ≤ p ∧ p < A 0 0 5) ∧ ((1 ≤ w ∧ w ≤ 1000) ∧ (1 ≤ hh ∧ hh ≤ 1000))) ∧ labC (dropL A p) < 5 → ∀ D, oW (giveL (dropL A p) p w hh) D → ∀ S' : Sg, Lk (spF (giveL (dropL A p) p w hh) D (A 0 0 5)) S' → Fr S S' → Q (.inl (some (aI 0))) S') : Es G 105 0 (aEnt 7 [aR 0 (0 : Int), aI p, aL w, aL hh]) [] S (k + 7) Q := by
  have hS := hA.lk hL
  have hnp := hS.1.1
  have hnc := hS.1.2.1
  have e05 : S 0 0 5 = A 0 0 5 := by rw [hL 0 (by decide)]
  have e06 : S 0 0 6 = A 0 0 6 := by rw [hL 0 (by decide)]
  refine es_rg (fun hg1 => ?_)
  refine es_s0 2 (pc' := 2) (ls' := [some (aR 0 (0 : Int)), some (aI p), some (aL w), none, some (aL hh), none, none]) (st' := [aI p, aR 0 (0 : Int)]) (S' := S) rfl ?_
  refine es_callV rfl rfl 0 (0 : Int) [aI p] [] rfl rfl rfl rfl (Nat.le_of_ble_eq_true rfl) (Nat.le_of_ble_eq_true rfl) (Nat.le_of_ble_eq_true rfl) ?_
  refine m17 (n := p) (by assumption) (fun hc2 => ?_) (fun hc2 => ⟨⟨_, rfl, rfl, rfl⟩, ?_⟩)
  · show Es G 105 5 [some (aR 0 (0 : Int)), some (aI p), some (aL w), none, some (aL hh), none, none] [] S _ _
    refine es_s0 2 (pc' := 8) (ls' := [some (aR 0 (0 : Int)), some (aI p), some (aL w), none, some (aL hh), none, none]) (st' := [aL hh, aL w]) (S' := S) rfl ?_
    refine es_callS rfl rfl [aL w, aL hh] [] rfl rfl (Nat.le_of_ble_eq_true rfl) (Nat.le_of_ble_eq_true rfl) (Nat.le_of_ble_eq_true rfl) ?_
    refine m8 (by assumption) (by assumption) (fun hc8 => ?_) (fun hc8 => ⟨⟨_, rfl, rfl, rfl⟩, ?_⟩)
    · show Es G 105 11 [some (aR 0 (0 : Int)), some (aI p), some (aL w), none, some (aL hh), none, none] [] S _ _
      refine es_sg 6 (p := ((0 : Int) = 0) ∧ (((0 : Int) = 0) ∧ (0 ≤ p ∧ p < 60))) (pc' := 21) (ls' := [some (aR 0 (0 : Int)), some (aI p), some (aL w), none, some (aL hh), none, some (aR 1 p)]) (st' := [aR 1 p]) (S' := S) rfl ⟨rfl, ⟨rfl, (by omega)⟩⟩ ?_
      refine es_callV rfl rfl 1 p [] [] rfl rfl rfl (show 0 ≤ p ∧ p < 60 from (by omega)) (Nat.le_of_ble_eq_true rfl) (Nat.le_of_ble_eq_true rfl) (Nat.le_of_ble_eq_true rfl) ?_
      refine m90 (S := S) (p := p) (by omega) ?_
      show Es G 105 24 [some (aR 0 (0 : Int)), some (aI p), some (aL w), none, some (aL hh), none, some (aR 1 p)] [] (su (su S 1 p 8 0) 1 p 11 (-1)) _ _
      refine es_rg (fun hg2 => ?_)
      have hd := hA.drop (p := p) (by omega)
      have hLd : Lk (dropL A p) (dropL S p) := dropL_lk hL
      have hld := labC_n (dropL A p)
      refine es_s0 1 (pc' := 25) (ls' := [some (aR 0 (0 : Int)), some (aI p), some (aL w), none, some (aL hh), none, some (aR 1 p)]) (st' := [aR 0 (0 : Int)]) (S' := su (su S 1 p 8 0) 1 p 11 (-1)) rfl ?_
      refine es_callV rfl rfl 0 (0 : Int) [] [] rfl rfl rfl rfl (Nat.le_of_ble_eq_true rfl) (Nat.le_of_ble_eq_true rfl) (Nat.le_of_ble_eq_true rfl) ?_
      refine m91 (S := su (su S 1 p 8 0) 1 p 11 (-1)) (W := dropL A p) hLd hd.wi ?_
      show Es G 105 28 [some (aR 0 (0 : Int)), some (aI p), some (aL w), none, some (aL hh), none, some (aR 1 p)] [aI (labC (dropL A p))] (su (su S 1 p 8 0) 1 p 11 (-1)) _ _
      refine es_s0 1 (pc' := 29) (ls' := [some (aR 0 (0 : Int)), some (aI p), some (aL w), none, some (aL hh), none, some (aR 1 p)]) (st' := [aI (5 : Int), aI (labC (dropL A p))]) (S' := su (su S 1 p 8 0) 1 p 11 (-1)) rfl ?_
      refine es_icmp rfl 34 rfl ⟨by omega, by omega⟩ ⟨by decide, by decide⟩ (fun (g29 : (labC (dropL A p)) < (5 : Int)) => ?_) (fun (g29 : ¬ ((labC (dropL A p)) < (5 : Int))) => ?_)
      · refine es_s0 3 (pc' := 39) (ls' := [some (aR 0 (0 : Int)), some (aI p), some (aL w), none, some (aL hh), none, some (aR 1 p)]) (st' := [aL hh, aL w, aR 1 p]) (S' := su (su S 1 p 8 0) 1 p 11 (-1)) rfl ?_
        refine es_callV rfl rfl 1 p [aL w, aL hh] [] rfl rfl rfl (show 0 ≤ p ∧ p < 60 from (by omega)) (Nat.le_of_ble_eq_true rfl) (Nat.le_of_ble_eq_true rfl) (Nat.le_of_ble_eq_true rfl) ?_
        refine m92 (S := su (su S 1 p 8 0) 1 p 11 (-1)) (p := p) (w := w) (h := hh) (by omega) (by assumption) (by assumption) ?_
        show Es G 105 42 [some (aR 0 (0 : Int)), some (aI p), some (aL w), none, some (aL hh), none, some (aR 1 p)] [] (su (su (su (su (su (su S 1 p 8 0) 1 p 11 (-1)) 1 p 8 1) 1 p 9 w) 1 p 10 hh) 1 p 11 (-1)) _ _
        refine es_rg (fun hg3 => ?_)
        have hWg : WI (giveL (dropL A p) p w hh) := hd.wi.give (show 0 ≤ p ∧ p < A 0 0 5 from by omega) (by rw [dropL_8, if_pos rfl]; decide) (by omega) (by omega) (by omega)
        have hLg : Lk (giveL (dropL A p) p w hh) (giveL (dropL S p) p w hh) := giveL_lk hLd
        have hF6 : Fr S (giveL (dropL S p) p w hh) := ((((((Fr.rf S).put (by decide)).put (by decide)).put (by decide)).put (by decide)).put (by decide)).put (by decide)
        refine es_sg 6 (p := ((0 : Int) = 0) ∧ (((0 : Int) = 0) ∧ ((0 : Int) = 0))) (pc' := 54) (ls' := [some (aR 0 (0 : Int)), some (aI p), some (aL w), none, some (aL hh), none, some (aR 1 p)]) (st' := [aI (S 0 0 5), aR 15 (0 : Int), aR 6 (0 : Int)]) (S' := su (su (su (su (su (su S 1 p 8 0) 1 p 11 (-1)) 1 p 8 1) 1 p 9 w) 1 p 10 hh) 1 p 11 (-1)) rfl ⟨rfl, rfl, rfl⟩ ?_
        refine es_callV rfl rfl 6 (0 : Int) [aR 15 (0 : Int), aI (S 0 0 5)] [] rfl rfl rfl rfl (Nat.le_of_ble_eq_true rfl) (Nat.le_of_ble_eq_true rfl) (Nat.le_of_ble_eq_true rfl) ?_
        refine m104 (S := su (su (su (su (su (su S 1 p 8 0) 1 p 11 (-1)) 1 p 8 1) 1 p 9 w) 1 p 10 hh) 1 p 11 (-1)) (W := (giveL (dropL A p) p w hh)) hWg e05 ⟨⟨lbc_nn, hWg.lt (p := p) (by omega) (by rw [giveL_8, if_pos rfl])⟩, give_free (by omega)⟩ (fun D j1 S1 j2 j3 => ?_) (fun j1 S1 j2 j3 => ?_) hLg
        · show Es G 105 57 [some (aR 0 (0 : Int)), some (aI p), some (aL w), none, some (aL hh), none, some (aR 1 p)] [aI (1 : Int)] S1 _ _
          refine es_rg (fun hg4 => ?_)
          refine es_if rfl 62 rfl ⟨by decide, by decide⟩ (fun (g57 : (1 : Int) = (0 : Int)) => absurd g57 (by decide)) (fun (g57 : ¬ ((1 : Int) = (0 : Int))) => ?_)
          refine es_s0 1 (pc' := 61) (ls' := [some (aR 0 (0 : Int)), some (aI p), some (aL w), none, some (aL hh), none, some (aR 1 p)]) (st' := [aI (0 : Int)]) (S' := S1) rfl ?_
          refine es_iret rfl rfl rfl (Or.inl rfl) ?_
          exact h0 ⟨by omega, by omega⟩ D j1 S1 j2 (fun t ht => (j3 t ht).trans (hF6 t ht))
        · show Es G 105 57 [some (aR 0 (0 : Int)), some (aI p), some (aL w), none, some (aL hh), none, some (aR 1 p)] [aI (0 : Int)] S1 _ _
          refine es_rg (fun hg5 => ?_)
          refine es_if rfl 62 rfl ⟨by decide, by decide⟩ (fun (g57 : (0 : Int) = (0 : Int)) => ?_) (fun (g57 : ¬ ((0 : Int) = (0 : Int))) => absurd g57 (by decide))
          refine es_s0 1 (pc' := 64) (ls' := [some (aR 0 (0 : Int)), some (aI p), some (aL w), none, some (aL hh), none, some (aR 1 p)]) (st' := [aR 1 p]) (S' := S1) rfl ?_
          refine es_callV rfl rfl 1 p [] [] rfl rfl rfl (show 0 ≤ p ∧ p < 60 from (by omega)) (Nat.le_of_ble_eq_true rfl) (Nat.le_of_ble_eq_true rfl) (Nat.le_of_ble_eq_true rfl) ?_
          refine m90 (S := S1) (p := p) (by omega) ?_
          show Es G 105 67 [some (aR 0 (0 : Int)), some (aI p), some (aL w), none, some (aL hh), none, some (aR 1 p)] [] (su (su S1 1 p 8 0) 1 p 11 (-1)) _ _
          refine es_rg (fun hg6 => ?_)
          refine es_s0 1 (pc' := 68) (ls' := [some (aR 0 (0 : Int)), some (aI p), some (aL w), none, some (aL hh), none, some (aR 1 p)]) (st' := [aI (1 : Int)]) (S' := su (su S1 1 p 8 0) 1 p 11 (-1)) rfl ?_
          refine es_iret rfl rfl rfl (Or.inl rfl) ?_
          exact h2 ⟨by omega, by omega⟩ j1 _ (dropL_lk j2) (((Fr.tr hF6 j3).put (by decide)).put (by decide))
      · refine es_s0 1 (pc' := 33) (ls' := [some (aR 0 (0 : Int)), some (aI p), some (aL w), none, some (aL hh), none, some (aR 1 p)]) (st' := [aI (1 : Int)]) (S' := su (su S 1 p 8 0) 1 p 11 (-1)) rfl ?_
        refine es_iret rfl rfl rfl (Or.inl rfl) ?_
        exact h1 ⟨by omega, by omega⟩ _ hLd (((Fr.rf S).put (by decide)).put (by decide))
    · first | exact t1 (by omega) | exact t2 (by omega)
  · first | exact t1 (by omega) | exact t2 (by omega)
