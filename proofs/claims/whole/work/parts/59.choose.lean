/-! THE CLASS: which spots clash, the choosing -/
/-- the clashes found so far -/
def Cl (W S : Sg) (n l m s : Int) : Prop := ∀ l' m' s', 0 ≤ l' → l' < m' → m' < n → 0 ≤ s' → s' < 8 → (l' < l ∨ (l' = l ∧ (m' < m ∨ (m' = m ∧ s' < s)))) → Bs (mtL W l' s' m') (S 11 0 ((l' * 8 + s') * 5 + m')) 8
/-- all clashes -/
def Ca (W S : Sg) (n : Int) : Prop := ∀ l m s, 0 ≤ l → l < m → m < n → 0 ≤ s → s < 8 → Bs (mtL W l s m) (S 11 0 ((l * 8 + s) * 5 + m)) 8
def Kf (S S' : Sg) : Prop := ∀ t : Nat, t ≠ 11 → S' t = S t
theorem Sh.kf {W S S' : Sg} {n : Int} (h : Sh W S n) (g : Kf S S') : Sh W S' n := by
  refine ⟨by rw [g 6 (by decide)]; exact h.1, fun l a b => ?_⟩
  have := h.2 l a b
  unfold ShL at this ⊢
  rw [g 13 (by decide), g 7 (by decide), g 8 (by decide), g 9 (by decide), g 10 (by decide)]
  exact this
theorem m100_c {G : Gw} {S0 : Sg} {k : Nat} {Q : AQ} {W : Sg} {nn l m : Int} (hn5 : nn ≤ 5) (hlm : (0 ≤ l ∧ l < m) ∧ m < nn) (h : ∀ (S' : Sg) (o o' : Option AV), Kf S0 S' → Cl W S' nn l (m + 1) 0 → Es G 100 14 [some (aR 6 (0 : Int)), some (aI l), some (aI (m + 1)), o, o'] [] S' (k + 1) Q) : ∀ (n : Nat) (S : Sg) (s : Int) (o : Option AV) (_ : 0 ≤ s) (_ : s + n = 8) (_ : Sh W S nn) (_ : Kf S0 S) (_ : Cl W S nn l m s), Es G 100 24 [some (aR 6 (0 : Int)), some (aI l), some (aI m), some (aI s), o] [] S (k + 1) Q := by
  intro n
  induction n using Nat.strongRecOn with
  | _ n ih =>
    intro S s o hs hn hS hK hC
    refine es_rg (fun hg1 => ?_)
    refine es_s0 2 (pc' := 27) (ls' := [some (aR 6 (0 : Int)), some (aI l), some (aI m), some (aI s), o]) (st' := [aI (8 : Int), aI s]) (S' := S) rfl ?_
    refine es_icmp rfl 62 rfl ⟨by omega, by omega⟩ ⟨by decide, by decide⟩ (fun (g27 : (8 : Int) ≤ s) => ?_) (fun (g27 : ¬ ((8 : Int) ≤ s)) => ?_)
    · refine es_s0 2 (pc' := 14) (ls' := [some (aR 6 (0 : Int)), some (aI l), some (aI (m + 1)), some (aI s), o]) (st' := []) (S' := S) rfl ?_
      exact h S _ _ hK (fun l' m' s' a1 a2 a3 a4 a5 a6 => hC l' m' s' a1 a2 a3 a4 a5 (by omega))
    · have hz := (hS.2 l (by omega) (by omega)).2 s (by omega) (by omega)
      refine es_s0 6 (pc' := 38) (ls' := [some (aR 6 (0 : Int)), some (aI l), some (aI m), some (aI s), some (aI ((l * 8) + s))]) (st' := []) (S' := S) rfl ?_
      refine es_sg 6 (p := (0 : Int) = 0) (pc' := 47) (ls' := [some (aR 6 (0 : Int)), some (aI l), some (aI m), some (aI s), some (aI ((l * 8) + s))]) (st' := [aI m, aI (((l * 8) + s) * 5), aR 11 (0 : Int)]) (S' := S) rfl rfl ?_
      refine es_s0 4 (pc' := 52) (ls' := [some (aR 6 (0 : Int)), some (aI l), some (aI m), some (aI s), some (aI ((l * 8) + s))]) (st' := [aI m, aI ((l * 8) + s), aR 6 (0 : Int), aI ((((l * 8) + s) * 5) + m), aR 11 (0 : Int)]) (S' := S) rfl ?_
      refine es_callV rfl rfl 6 (0 : Int) [aI ((l * 8) + s), aI m] [aI ((((l * 8) + s) * 5) + m), aR 11 (0 : Int)] rfl rfl rfl rfl (Nat.le_of_ble_eq_true rfl) (Nat.le_of_ble_eq_true rfl) (Nat.le_of_ble_eq_true rfl) ?_
      refine m99 (a := l * 8 + s) (l := m) (q := ow W l) (s := s) (by omega) (by omega) (hS.2 m (by omega) (by omega)) hz.1 hz.2.1 hz.2.2.1 hz.2.2.2 (fun v hv hbs => ?_)
      show Es G 100 55 [some (aR 6 (0 : Int)), some (aI l), some (aI m), some (aI s), some (aI ((l * 8) + s))] [aI v, aI ((((l * 8) + s) * 5) + m), aR 11 (0 : Int)] S _ _
      refine es_sg 1 (p := (((0 : Int) = 0) ∧ (0 ≤ ((((l * 8) + s) * 5) + m) ∧ ((((l * 8) + s) * 5) + m) < 200)) ∧ (r32 v)) (pc' := 56) (ls' := [some (aR 6 (0 : Int)), some (aI l), some (aI m), some (aI s), some (aI ((l * 8) + s))]) (st' := []) (S' := su S 11 0 ((((l * 8) + s) * 5) + m) v) rfl ⟨⟨rfl, (by omega)⟩, (by assumption)⟩ ?_
      refine es_rg (fun hg2 => ?_)
      refine es_s0 2 (pc' := 24) (ls' := [some (aR 6 (0 : Int)), some (aI l), some (aI m), some (aI (s + 1)), some (aI ((l * 8) + s))]) (st' := []) (S' := su S 11 0 ((((l * 8) + s) * 5) + m) v) rfl ?_
      have hK2 : Kf S (su S 11 0 ((l * 8 + s) * 5 + m) v) := fun t ht => su_tt _ ht
      refine ih (n - 1) (by omega) _ (s + 1) _ (by omega) (by omega) (hS.kf hK2) (fun t ht => (hK2 t ht).trans (hK t ht)) (fun l' m' s' a1 a2 a3 a4 a5 a6 => ?_)
      rw [suA]
      by_cases e : l' = l ∧ m' = m ∧ s' = s
      · obtain ⟨rfl, rfl, rfl⟩ := e
        rw [if_pos rfl]
        exact hbs
      · rw [if_neg (by omega)]
        exact hC l' m' s' a1 a2 a3 a4 a5 (by omega)
theorem m100_b {G : Gw} {S0 : Sg} {k : Nat} {Q : AQ} {W : Sg} {nn l : Int} (hn5 : nn ≤ 5) (hl : 0 ≤ l ∧ l < nn) (h : ∀ (S' : Sg) (o'' o o' : Option AV), Kf S0 S' → Cl W S' nn (l + 1) 0 0 → Es G 100 2 [some (aR 6 (0 : Int)), some (aI (l + 1)), o'', o, o'] [] S' (k + 1) Q) : ∀ (n : Nat) (S : Sg) (m : Int) (o o' : Option AV) (_ : l < m) (_ : m + n = nn) (_ : Sh W S nn) (_ : Kf S0 S) (_ : Cl W S nn l m 0), Es G 100 14 [some (aR 6 (0 : Int)), some (aI l), some (aI m), o, o'] [] S (k + 1) Q := by
  intro n
  induction n using Nat.strongRecOn with
  | _ n ih =>
    intro S m o o' hm hn hS hK hC
    have e6 := hS.1
    refine es_rg (fun hg1 => ?_)
    refine es_sg 3 (p := (0 : Int) = 0) (pc' := 19) (ls' := [some (aR 6 (0 : Int)), some (aI l), some (aI m), o, o']) (st' := [aI (S 6 0 8), aI m]) (S' := S) rfl rfl ?_
    refine es_icmp rfl 68 rfl ⟨by omega, by omega⟩ (rgI hg1 (t := 6) (i := (0 : Int)) (q := (8 : Int)) (by omega : 0 ≤ (0 : Int) ∧ (0 : Int) < 1) (by omega) rfl) (fun (g19 : (S 6 0 8) ≤ m) => ?_) (fun (g19 : ¬ ((S 6 0 8) ≤ m)) => ?_)
    · refine es_s0 2 (pc' := 2) (ls' := [some (aR 6 (0 : Int)), some (aI (l + 1)), some (aI m), o, o']) (st' := []) (S' := S) rfl ?_
      exact h S _ _ _ hK (fun l' m' s' a1 a2 a3 a4 a5 a6 => hC l' m' s' a1 a2 a3 a4 a5 (by omega))
    · refine es_s0 2 (pc' := 24) (ls' := [some (aR 6 (0 : Int)), some (aI l), some (aI m), some (aI (0 : Int)), o']) (st' := []) (S' := S) rfl ?_
      exact m100_c hn5 (by omega) (S0 := S) (fun S' u u' a b => ih (n - 1) (by omega) S' (m + 1) u u' (by omega) (by omega) (hS.kf a) (fun t ht => (a t ht).trans (hK t ht)) b) 8 S 0 _ (by omega) (by omega) hS (fun _ _ => rfl) hC
theorem m100_a {G : Gw} {S0 : Sg} {k : Nat} {Q : AQ} {W : Sg} {nn : Int} (hn5 : nn ≤ 5) (h : ∀ S' : Sg, Kf S0 S' → Ca W S' nn → Q (.inl none) S') : ∀ (n : Nat) (S : Sg) (l : Int) (o'' o o' : Option AV) (_ : 0 ≤ l) (_ : l + n = nn) (_ : Sh W S nn) (_ : Kf S0 S) (_ : Cl W S nn l 0 0), Es G 100 2 [some (aR 6 (0 : Int)), some (aI l), o'', o, o'] [] S (k + 1) Q := by
  intro n
  induction n using Nat.strongRecOn with
  | _ n ih =>
    intro S l o'' o o' hl hn hS hK hC
    have e6 := hS.1
    refine es_rg (fun hg1 => ?_)
    refine es_sg 3 (p := (0 : Int) = 0) (pc' := 7) (ls' := [some (aR 6 (0 : Int)), some (aI l), o'', o, o']) (st' := [aI (S 6 0 8), aI l]) (S' := S) rfl rfl ?_
    refine es_icmp rfl 74 rfl ⟨by omega, by omega⟩ (rgI hg1 (t := 6) (i := (0 : Int)) (q := (8 : Int)) (by omega : 0 ≤ (0 : Int) ∧ (0 : Int) < 1) (by omega) rfl) (fun (g7 : (S 6 0 8) ≤ l) => ?_) (fun (g7 : ¬ ((S 6 0 8) ≤ l)) => ?_)
    · refine es_vret rfl ?_
      exact h S hK (fun l' m' s' a1 a2 a3 a4 a5 => hC l' m' s' a1 a2 a3 a4 a5 (by omega))
    · refine es_s0 4 (pc' := 14) (ls' := [some (aR 6 (0 : Int)), some (aI l), some (aI (l + 1)), o, o']) (st' := []) (S' := S) rfl ?_
      exact m100_b hn5 (by omega) (S0 := S) (fun S' u'' u u' a b => ih (n - 1) (by omega) S' (l + 1) u'' u u' (by omega) (by omega) (hS.kf a) (fun t ht => (a t ht).trans (hK t ht)) b) (nn - (l + 1)).toNat S (l + 1) _ _ (by omega) (by omega) hS (fun _ _ => rfl) (fun l' m' s' a1 a2 a3 a4 a5 a6 => hC l' m' s' a1 a2 a3 a4 a5 (by omega))
theorem m100 {G : Gw} {S : Sg} {k : Nat} {Q : AQ} {W : Sg} {nn : Int} (hn5 : 0 ≤ nn ∧ nn ≤ 5) (hS : Sh W S nn) (h : ∀ S' : Sg, Kf S S' → Ca W S' nn → Q (.inl none) S') : Es G 100 0 (aEnt 5 [aR 6 (0 : Int)]) [] S (k + 1) Q := by
  refine es_rg (fun hg1 => ?_)
  refine es_s0 2 (pc' := 2) (ls' := [some (aR 6 (0 : Int)), some (aI (0 : Int)), none, none, none]) (st' := []) (S' := S) rfl ?_
  exact m100_a hn5.2 h nn.toNat S 0 _ _ _ (by omega) (by omega) hS (fun _ _ => rfl) (fun l' m' s' a1 a2 a3 a4 a5 a6 => absurd a6 (by omega))
/-- the spots of a label that so many chosen ones leave to it -/
def opF (W : Sg) (D : Int → Int) (l m t : Int) : Prop := frL W m t ∧ ∀ j, 0 ≤ j → j < l → ¬ mtL W j (D j) m t
def Row (W S : Sg) (D : Int → Int) (n l : Int) : Prop := ∀ m, l ≤ m → m < n → Bs (opF W D l m) (S 12 0 (l * 5 + m)) 8
def Kl (S S' : Sg) (l : Int) : Prop := (∀ t : Nat, t ≠ 12 → S' t = S t) ∧ ∀ i, i < (l + 1) * 5 → S' 12 0 i = S 12 0 i
/-- what is chosen, and one more -/
def dS (D : Int → Int) (l s : Int) : Int → Int := fun i => if i = l then s else D i
theorem dS_is (D : Int → Int) (l s : Int) : dS D l s l = s := if_pos rfl
theorem dS_off {D : Int → Int} {l s i : Int} (h : ¬ i = l) : dS D l s i = D i := if_neg h
theorem opF_next {W : Sg} {D : Int → Int} {l m s v c : Int} (hl : 0 ≤ l) (hv : Bs (opF W D l m) v 8) (hc : Bs (mtL W l s m) c 8) : Bs (opF W (dS D l s) (l + 1) m) (aAnd v (aXor c (-1))) 8 := fun t a b => by
  rw [b8_and (by omega), Bool.and_eq_true, hv t a b]
  have h2 := hc t a b
  constructor
  · intro ⟨g1, g2⟩
    refine ⟨⟨g1.1.1, fun j j0 j1 => ?_⟩, b⟩
    by_cases e : j = l
    · subst e
      rw [dS_is]
      intro q
      rw [h2.mpr ⟨q, b⟩] at g2
      cases g2
    · rw [dS_off e]
      exact g1.1.2 j j0 (by omega)
  · intro ⟨g1, _⟩
    refine ⟨⟨⟨g1.1, fun j j0 j1 => ?_⟩, b⟩, ?_⟩
    · have := g1.2 j j0 (by omega)
      rw [dS_off (by omega)] at this
      exact this
    · have := g1.2 l hl (by omega)
      rw [dS_is] at this
      cases e : b8 c t with
      | false => rfl
      | true => exact absurd (h2.mp e).1 this
theorem opF_none {W : Sg} {D : Int → Int} {l m v : Int} (h : Bs (opF W D l m) v 8) (hv : v = 0) {t : Int} (ht : 0 ≤ t ∧ t < 8) : ¬ opF W D l m t := fun q => by
  have := (h t ht.1 ht.2).mpr ⟨q, ht.2⟩
  rw [hv, b8_zero] at this
  cases this
theorem m101_l {G : Gw} {S0 : Sg} {k : Nat} {Q : AQ} {W : Sg} {nn l s : Int} {D : Int → Int} (hn5 : nn ≤ 5) (hl : 0 ≤ l ∧ l < nn) (hs : 0 ≤ s ∧ s < 8) (h1 : ∀ S' : Sg, Kl S0 S' l → Row W S' (dS D l s) nn (l + 1) → Q (.inl (some (aI 1))) S') (h0 : ∀ (S' : Sg) (m : Int), Kl S0 S' l → (l < m ∧ m < nn) → (∀ t, 0 ≤ t → t < 8 → ¬ opF W (dS D l s) (l + 1) m t) → Q (.inl (some (aI 0))) S') : ∀ (n : Nat) (S : Sg) (m : Int) (o o' : Option AV) (_ : l < m) (_ : m + n = nn) (_ : S 6 0 8 = nn) (_ : Ca W S nn) (_ : Row W S D nn l) (_ : Kl S0 S l) (_ : ∀ m', l < m' → m' < m → Bs (opF W (dS D l s) (l + 1) m') (S 12 0 ((l + 1) * 5 + m')) 8), Es G 101 4 [some (aR 6 (0 : Int)), some (aI l), some (aI s), some (aI m), o, o'] [] S (k + 0) Q := by
  intro n
  induction n using Nat.strongRecOn with
  | _ n ih =>
    intro S m o o' hm hn e6 hC hR hK hB
    refine es_rg (fun hg1 => ?_)
    refine es_sg 3 (p := (0 : Int) = 0) (pc' := 9) (ls' := [some (aR 6 (0 : Int)), some (aI l), some (aI s), some (aI m), o, o']) (st' := [aI (S 6 0 8), aI m]) (S' := S) rfl rfl ?_
    refine es_icmp rfl 73 rfl ⟨by omega, by omega⟩ (rgI hg1 (t := 6) (i := (0 : Int)) (q := (8 : Int)) (by omega : 0 ≤ (0 : Int) ∧ (0 : Int) < 1) (by omega) rfl) (fun (g9 : (S 6 0 8) ≤ m) => ?_) (fun (g9 : ¬ ((S 6 0 8) ≤ m)) => ?_)
    · refine es_s0 1 (pc' := 74) (ls' := [some (aR 6 (0 : Int)), some (aI l), some (aI s), some (aI m), o, o']) (st' := [aI (1 : Int)]) (S' := S) rfl ?_
      refine es_iret rfl rfl rfl (Or.inr ⟨rfl, (by decide)⟩) ?_
      exact h1 S hK (fun m' a b => hB m' (by omega) (by omega))
    · refine es_sg 6 (p := (0 : Int) = 0) (pc' := 21) (ls' := [some (aR 6 (0 : Int)), some (aI l), some (aI s), some (aI m), o, o']) (st' := [aI s, aI (l * 8), aR 11 (0 : Int)]) (S' := S) rfl rfl ?_
      refine es_sg 6 (p := ((0 : Int) = 0) ∧ (0 ≤ ((((l * 8) + s) * 5) + m) ∧ ((((l * 8) + s) * 5) + m) < 200)) (pc' := 27) (ls' := [some (aR 6 (0 : Int)), some (aI l), some (aI s), some (aI m), o, o']) (st' := [aI (S 11 0 ((((l * 8) + s) * 5) + m))]) (S' := S) rfl ⟨rfl, (by omega)⟩ ?_
      refine es_sg 6 (p := (0 : Int) = 0) (pc' := 36) (ls' := [some (aR 6 (0 : Int)), some (aI l), some (aI s), some (aI m), some (aI (S 11 0 ((((l * 8) + s) * 5) + m))), o']) (st' := [aI (l * 5), aR 12 (0 : Int)]) (S' := S) rfl rfl ?_
      refine es_sg 6 (p := ((0 : Int) = 0) ∧ (0 ≤ ((l * 5) + m) ∧ ((l * 5) + m) < 30)) (pc' := 43) (ls' := [some (aR 6 (0 : Int)), some (aI l), some (aI s), some (aI m), some (aI (S 11 0 ((((l * 8) + s) * 5) + m))), o']) (st' := [aI (aXor (S 11 0 ((((l * 8) + s) * 5) + m)) (-1 : Int)), aI (S 12 0 ((l * 5) + m))]) (S' := S) rfl ⟨rfl, (by omega)⟩ ?_
      refine es_s0 3 (pc' := 48) (ls' := [some (aR 6 (0 : Int)), some (aI l), some (aI s), some (aI m), some (aI (S 11 0 ((((l * 8) + s) * 5) + m))), some (aI (aAnd (S 12 0 ((l * 5) + m)) (aXor (S 11 0 ((((l * 8) + s) * 5) + m)) (-1 : Int))))]) (st' := [aI (aAnd (S 12 0 ((l * 5) + m)) (aXor (S 11 0 ((((l * 8) + s) * 5) + m)) (-1 : Int)))]) (S' := S) rfl ?_
      refine es_if rfl 53 rfl (r32_of _) (fun (g48 : ¬ (aAnd (S 12 0 ((l * 5) + m)) (aXor (S 11 0 ((((l * 8) + s) * 5) + m)) (-1 : Int))) = (0 : Int)) => ?_) (fun (g48 : ¬ (¬ (aAnd (S 12 0 ((l * 5) + m)) (aXor (S 11 0 ((((l * 8) + s) * 5) + m)) (-1 : Int))) = (0 : Int))) => ?_)
      · refine es_sg 6 (p := (0 : Int) = 0) (pc' := 61) (ls' := [some (aR 6 (0 : Int)), some (aI l), some (aI s), some (aI m), some (aI (S 11 0 ((((l * 8) + s) * 5) + m))), some (aI (aAnd (S 12 0 ((l * 5) + m)) (aXor (S 11 0 ((((l * 8) + s) * 5) + m)) (-1 : Int))))]) (st' := [aI (5 : Int), aI (l + 1), aR 12 (0 : Int)]) (S' := S) rfl rfl ?_
        refine es_sg 5 (p := (((0 : Int) = 0) ∧ (0 ≤ (((l + 1) * 5) + m) ∧ (((l + 1) * 5) + m) < 30)) ∧ (r32 (aAnd (S 12 0 ((l * 5) + m)) (aXor (S 11 0 ((((l * 8) + s) * 5) + m)) (-1 : Int))))) (pc' := 67) (ls' := [some (aR 6 (0 : Int)), some (aI l), some (aI s), some (aI m), some (aI (S 11 0 ((((l * 8) + s) * 5) + m))), some (aI (aAnd (S 12 0 ((l * 5) + m)) (aXor (S 11 0 ((((l * 8) + s) * 5) + m)) (-1 : Int))))]) (st' := []) (S' := su S 12 0 (((l + 1) * 5) + m) (aAnd (S 12 0 ((l * 5) + m)) (aXor (S 11 0 ((((l * 8) + s) * 5) + m)) (-1 : Int)))) rfl ⟨⟨rfl, (by omega)⟩, (r32_of _)⟩ ?_
        refine es_rg (fun hg2 => ?_)
        refine es_s0 2 (pc' := 4) (ls' := [some (aR 6 (0 : Int)), some (aI l), some (aI s), some (aI (m + 1)), some (aI (S 11 0 ((((l * 8) + s) * 5) + m))), some (aI (aAnd (S 12 0 ((l * 5) + m)) (aXor (S 11 0 ((((l * 8) + s) * 5) + m)) (-1 : Int))))]) (st' := []) (S' := su S 12 0 (((l + 1) * 5) + m) (aAnd (S 12 0 ((l * 5) + m)) (aXor (S 11 0 ((((l * 8) + s) * 5) + m)) (-1 : Int)))) rfl ?_
        have hnx := opF_next hl.1 (hR m (by omega) (by omega)) (hC l m s hl.1 hm (by omega) hs.1 hs.2)
        refine ih (n - 1) (by omega) _ (m + 1) _ _ (by omega) (by omega) e6 hC (fun m' a b => ?_) ⟨fun t ht => (su_tt _ ht).trans (hK.1 t ht), fun i hi => ?_⟩ (fun m' a b => ?_)
        · rw [suO (fun _ q _ => by omega)]
          exact hR m' a b
        · rw [suO (fun _ q _ => by omega)]
          exact hK.2 i hi
        · rw [suA]
          by_cases e : m' = m
          · subst e
            rw [if_pos rfl]
            exact hnx
          · rw [if_neg (by omega)]
            exact hB m' a (by omega)
      · refine es_s0 1 (pc' := 52) (ls' := [some (aR 6 (0 : Int)), some (aI l), some (aI s), some (aI m), some (aI (S 11 0 ((((l * 8) + s) * 5) + m))), some (aI (aAnd (S 12 0 ((l * 5) + m)) (aXor (S 11 0 ((((l * 8) + s) * 5) + m)) (-1 : Int))))]) (st' := [aI (0 : Int)]) (S' := S) rfl ?_
        refine es_iret rfl rfl rfl (Or.inr ⟨rfl, (by decide)⟩) ?_
        exact h0 S m hK (by omega) (fun t a b => opF_none (opF_next hl.1 (hR m (by omega) (by omega)) (hC l m s hl.1 hm (by omega) hs.1 hs.2)) (Decidable.not_not.mp g48) ⟨a, b⟩)
theorem m101 {G : Gw} {S : Sg} {k : Nat} {Q : AQ} {W : Sg} {nn l s : Int} {D : Int → Int} (hn5 : nn ≤ 5) (hl : 0 ≤ l ∧ l < nn) (hs : 0 ≤ s ∧ s < 8) (h1 : ∀ S' : Sg, Kl S S' l → Row W S' (dS D l s) nn (l + 1) → Q (.inl (some (aI 1))) S') (h0 : ∀ (S' : Sg) (m : Int), Kl S S' l → (l < m ∧ m < nn) → (∀ t, 0 ≤ t → t < 8 → ¬ opF W (dS D l s) (l + 1) m t) → Q (.inl (some (aI 0))) S') (e6 : S 6 0 8 = nn) (hC : Ca W S nn) (hR : Row W S D nn l)  : Es G 101 0 (aEnt 6 [aR 6 (0 : Int), aI l, aI s]) [] S (k + 0) Q := by
  refine es_rg (fun hg1 => ?_)
  refine es_s0 4 (pc' := 4) (ls' := [some (aR 6 (0 : Int)), some (aI l), some (aI s), some (aI (l + 1)), none, none]) (st' := []) (S' := S) rfl ?_
  exact m101_l hn5 hl hs h1 h0 (nn - (l + 1)).toNat S (l + 1) _ _ (by omega) (by omega) e6 hC hR ⟨fun _ _ => rfl, fun _ _ => rfl⟩ (fun m' a b => absurd b (by omega))
/-- what the choosing leaves as it was -/
def Kc (S S' : Sg) (l : Int) : Prop := (∀ t : Nat, t ≠ 12 → t ≠ 14 → S' t = S t) ∧ (∀ i, i < (l + 1) * 5 → S' 12 0 i = S 12 0 i) ∧ ∀ i, i < l → S' 14 0 i = S 14 0 i
theorem Kc.rf (S : Sg) (l : Int) : Kc S S l := ⟨fun _ _ _ => rfl, fun _ _ => rfl, fun _ _ => rfl⟩
theorem Kc.tr {S S1 S2 : Sg} {l : Int} (h : Kc S S1 l) (g : Kc S1 S2 l) : Kc S S2 l := ⟨fun t a b => (g.1 t a b).trans (h.1 t a b), fun i a => (g.2.1 i a).trans (h.2.1 i a), fun i a => (g.2.2 i a).trans (h.2.2 i a)⟩
theorem Kc.up {S S' : Sg} {l : Int} (h : Kc S S' (l + 1)) : Kc S S' l := ⟨h.1, fun i a => h.2.1 i (by omega), fun i a => h.2.2 i (by omega)⟩
theorem Kl.kc {S S' : Sg} {l : Int} (h : Kl S S' l) : Kc S S' l := ⟨fun t a _ => h.1 t a, h.2, fun i _ => by rw [h.1 14 (by decide)]⟩
/-- the search's tables -/
def Tb (W S : Sg) (n : Int) : Prop := S 6 0 8 = n ∧ Ca W S n ∧ ∀ l, 0 ≤ l → l < n → S 13 0 l = W 1 (ow W l) 11
theorem Tb.kc {W S S' : Sg} {n l : Int} (h : Tb W S n) (g : Kc S S' l) : Tb W S' n := by
  unfold Tb Ca at h ⊢
  rw [g.1 6 (by decide) (by decide), g.1 11 (by decide) (by decide), g.1 13 (by decide) (by decide)]
  exact h
theorem Row.kc {W S S' : Sg} {D : Int → Int} {n l : Int} (h : Row W S D n l) (hn : n ≤ 5) (g : Kc S S' l) : Row W S' D n l := fun m a b => by
  rw [g.2.1 _ (by omega)]
  exact h m a b
abbrev vW (W : Sg) (n : Int) (d : Int → Int) : Prop := Vd (frL W) (mtL W) n d
abbrev cW (W : Sg) (d : Int → Int) (n : Nat) (l : Int) : Int := cs (ctL W) d n l
/-- choosing from a label on -/
def ChS (G : Gw) (W : Sg) (n : Int) (j : Nat) : Prop := ∀ (k : Nat) (Q : AQ) (S : Sg) (l ch : Int) (D : Int → Int) (_ : 0 ≤ l ∧ l + j = n) (_ : 0 ≤ ch ∧ ch ≤ 5) (_ : Tb W S n) (_ : Row W S D n l) (_ : vW W l D) (_ : ∀ i, 0 ≤ i → i < l → S 14 0 i = D i)
  (_ : ∀ S' : Sg, Kc S S' l → vW W n (S' 14 0) → cW W (S' 14 0) j l ≤ ch → (∀ d, vW W n d → (∀ i, 0 ≤ i → i < l → d i = D i) → cW W d j l ≤ ch → vl (S' 14 0) n.toNat ≤ vl d n.toNat) → Q (.inl (some (aI 1))) S')
  (_ : ∀ S' : Sg, Kc S S' l → (∀ d, vW W n d → (∀ i, 0 ≤ i → i < l → d i = D i) → ¬ cW W d j l ≤ ch) → Q (.inl (some (aI 0))) S'), Es G 102 0 (aEnt 6 [aR 6 (0 : Int), aI l, aI ch]) [] S (k + j) Q
/-- a chosen spot that is open goes with those chosen -/
theorem vW_next {W : Sg} {D : Int → Int} {l s : Int} (h : vW W l D) (hs : 0 ≤ s ∧ s < 8) (ho : opF W D l l s) : vW W (l + 1) (dS D l s) := by
  refine ⟨fun i a b => ?_, fun i m a b c => ?_⟩
  · by_cases e : i = l
    · subst e
      rw [dS_is]
      exact ⟨hs, ho.1⟩
    · rw [dS_off e]
      exact h.1 i a (by omega)
  · rw [dS_off (by omega : ¬ i = l)]
    by_cases e : m = l
    · subst e
      rw [dS_is]
      exact ho.2 i a (by omega)
    · rw [dS_off e]
      exact h.2 i m a b (by omega)
/-- a way that goes on from those chosen finds its spots left -/
theorem vW_op {W : Sg} {D d : Int → Int} {n l m : Int} (h : vW W n d) (hd : ∀ i, 0 ≤ i → i < l → d i = D i) (hm : 0 ≤ l ∧ l ≤ m) (hn : m < n) : opF W D l m (d m) := by
  refine ⟨(h.1 m (by omega) hn).2, fun j a b => ?_⟩
  rw [← hd j a b]
  exact h.2 j m a (by omega) hn
theorem dS_ag {D d : Int → Int} {l s : Int} (h : ∀ i, 0 ≤ i → i < l → d i = D i) (hs : d l = s) : ∀ i, 0 ≤ i → i < l + 1 → d i = dS D l s i := fun i a b => by
  by_cases e : i = l
  · subst e; rw [dS_is]; exact hs
  · rw [dS_off e]; exact h i a (by omega)
theorem m102_l {G : Gw} {S0 : Sg} {k : Nat} {Q : AQ} {W : Sg} {nn l ch : Int} {D : Int → Int} {j : Nat} (ihj : ChS G W nn j) (hn5 : nn ≤ 5) (hl : 0 ≤ l ∧ l + (j + 1 : Nat) = nn) (hch : 0 ≤ ch ∧ ch ≤ 5) (hV : vW W l D) (h1 : ∀ S' : Sg, Kc S0 S' l → vW W nn (S' 14 0) → cW W (S' 14 0) (j + 1) l ≤ ch → (∀ d, vW W nn d → (∀ i, 0 ≤ i → i < l → d i = D i) → cW W d (j + 1) l ≤ ch → vl (S' 14 0) nn.toNat ≤ vl d nn.toNat) → Q (.inl (some (aI 1))) S') (h0 : ∀ S' : Sg, Kc S0 S' l → (∀ d, vW W nn d → (∀ i, 0 ≤ i → i < l → d i = D i) → ¬ cW W d (j + 1) l ≤ ch) → Q (.inl (some (aI 0))) S') : ∀ (n : Nat) (S : Sg) (s : Int) (o o' : Option AV) (_ : 0 ≤ s) (_ : s + n = 8) (_ : Tb W S nn) (_ : Row W S D nn l) (_ : ∀ i, 0 ≤ i → i < l → S 14 0 i = D i) (_ : Kc S0 S l) (_ : ∀ d, vW W nn d → (∀ i, 0 ≤ i → i < l → d i = D i) → cW W d (j + 1) l ≤ ch → s ≤ d l), Es G 102 12 [some (aR 6 (0 : Int)), some (aI l), some (aI ch), some (aI s), o, o'] [] S (k + j + 1) Q := by
  intro n
  induction n using Nat.strongRecOn with
  | _ n ih =>
    intro S s o o' hs hn hT hR h14 hK hD
    refine es_rg (fun hg1 => ?_)
    refine es_s0 2 (pc' := 15) (ls' := [some (aR 6 (0 : Int)), some (aI l), some (aI ch), some (aI s), o, o']) (st' := [aI (8 : Int), aI s]) (S' := S) rfl ?_
    refine es_icmp rfl 119 rfl ⟨by omega, by omega⟩ ⟨by decide, by decide⟩ (fun (g15 : (8 : Int) ≤ s) => ?_) (fun (g15 : ¬ ((8 : Int) ≤ s)) => ?_)
    · refine es_s0 1 (pc' := 120) (ls' := [some (aR 6 (0 : Int)), some (aI l), some (aI ch), some (aI s), o, o']) (st' := [aI (0 : Int)]) (S' := S) rfl ?_
      refine es_iret rfl rfl rfl (Or.inr ⟨rfl, (by decide)⟩) ?_
      refine h0 S hK (fun d a b c => ?_)
      have q := hD d a b c
      have q2 := (a.1 l (by omega) (by omega)).1
      omega
    · have e13 := hT.2.2 l (by omega) (by omega)
      have hb8 := (hR l (by omega) (by omega)) s (by omega) (by omega)
      refine es_sg 5 (p := ((0 : Int) = 0) ∧ (((0 : Int) = 0) ∧ (0 ≤ l ∧ l < 5))) (pc' := 25) (ls' := [some (aR 6 (0 : Int)), some (aI l), some (aI ch), some (aI s), o, o']) (st' := [aI (-1 : Int), aI (S 13 0 l)]) (S' := S) rfl ⟨rfl, ⟨rfl, (by omega)⟩⟩ ?_
      refine es_icmp rfl 38 rfl (rgI hg1 (t := 13) (i := (0 : Int)) (q := l) (by omega : 0 ≤ (0 : Int) ∧ (0 : Int) < 1) (by omega) rfl) ⟨by decide, by decide⟩ (fun (g25 : (S 13 0 l) = (-1 : Int)) => ?_) (fun (g25 : ¬ ((S 13 0 l) = (-1 : Int))) => ?_)
      · refine es_s0 2 (pc' := 43) (ls' := [some (aR 6 (0 : Int)), some (aI l), some (aI ch), some (aI s), o, o']) (st' := [aI (0 : Int)]) (S' := S) rfl ?_
        have hct : ctL W l s = 0 := by
          unfold ctL
          rw [← e13]
          rw [if_pos (by omega)]
        refine es_sg 6 (p := (0 : Int) = 0) (pc' := 52) (ls' := [some (aR 6 (0 : Int)), some (aI l), some (aI ch), some (aI s), some (aI (0 : Int)), o']) (st' := [aI (l * 5), aR 12 (0 : Int)]) (S' := S) rfl rfl ?_
        refine es_sg 6 (p := ((0 : Int) = 0) ∧ (0 ≤ ((l * 5) + l) ∧ ((l * 5) + l) < 30)) (pc' := 58) (ls' := [some (aR 6 (0 : Int)), some (aI l), some (aI ch), some (aI s), some (aI (0 : Int)), o']) (st' := [aI (1 : Int), aI (aShr (S 12 0 ((l * 5) + l)) s)]) (S' := S) rfl ⟨rfl, (by omega)⟩ ?_
        refine es_s0 2 (pc' := 60) (ls' := [some (aR 6 (0 : Int)), some (aI l), some (aI ch), some (aI s), some (aI (0 : Int)), o']) (st' := [aI (1 : Int), aI (aAnd (aShr (S 12 0 ((l * 5) + l)) s) (1 : Int))]) (S' := S) rfl ?_
        refine es_icmp rfl 67 rfl (r32_of _) ⟨by decide, by decide⟩ (fun (g60 : ¬ (aAnd (aShr (S 12 0 ((l * 5) + l)) s) (1 : Int)) = (1 : Int)) => ?_) (fun (g60 : ¬ (¬ (aAnd (aShr (S 12 0 ((l * 5) + l)) s) (1 : Int)) = (1 : Int))) => ?_)
        · refine es_s0 1 (pc' := 68) (ls' := [some (aR 6 (0 : Int)), some (aI l), some (aI ch), some (aI s), some (aI (0 : Int)), o']) (st' := [aI (0 : Int)]) (S' := S) rfl ?_
          have hop : ¬ opF W D l l s := fun q => g60 ((b8_in (by omega)).mpr (hb8.mpr ⟨q, by omega⟩))
          refine es_s0 2 (pc' := 72) (ls' := [some (aR 6 (0 : Int)), some (aI l), some (aI ch), some (aI s), some (aI (0 : Int)), some (aI (0 : Int))]) (st' := [aI (0 : Int)]) (S' := S) rfl ?_
          refine es_if rfl 113 rfl ⟨by decide, by decide⟩ (fun (g72 : (0 : Int) = (0 : Int)) => ?_) (fun (g72 : ¬ ((0 : Int) = (0 : Int))) => absurd g72 (by decide))
          refine es_s0 2 (pc' := 12) (ls' := [some (aR 6 (0 : Int)), some (aI l), some (aI ch), some (aI (s + 1)), some (aI (0 : Int)), some (aI (0 : Int))]) (st' := []) (S' := S) rfl ?_
          refine ih (n - 1) (by omega) S (s + 1) _ _ (by omega) (by omega) hT hR h14 hK (fun d a b c => ?_)
          have hsd := hD d a b c
          suffices hne : ¬ d l = s by omega
          intro e
          replace c : ctL W l (d l) + cW W d j (l + 1) ≤ ch := c
          have hcn : 0 ≤ cW W d j (l + 1) := (cs_b (d := d) (ctL_b W) j (l + 1)).1
          rw [e] at c
          first
            | omega
            | (have ho := vW_op a b (m := l) (by omega) (by omega)
               rw [e] at ho
               exact hop ho)
        · refine es_s0 2 (pc' := 68) (ls' := [some (aR 6 (0 : Int)), some (aI l), some (aI ch), some (aI s), some (aI (0 : Int)), o']) (st' := [aI (1 : Int)]) (S' := S) rfl ?_
          have hop : opF W D l l s := ((hb8.mp ((b8_in (by omega)).mp (Decidable.not_not.mp g60))).1)
          refine es_s0 2 (pc' := 72) (ls' := [some (aR 6 (0 : Int)), some (aI l), some (aI ch), some (aI s), some (aI (0 : Int)), some (aI (1 : Int))]) (st' := [aI (1 : Int)]) (S' := S) rfl ?_
          refine es_if rfl 113 rfl ⟨by decide, by decide⟩ (fun (g72 : (1 : Int) = (0 : Int)) => absurd g72 (by decide)) (fun (g72 : ¬ ((1 : Int) = (0 : Int))) => ?_)
          refine es_s0 2 (pc' := 78) (ls' := [some (aR 6 (0 : Int)), some (aI l), some (aI ch), some (aI s), some (aI (0 : Int)), some (aI (1 : Int))]) (st' := [aI ch, aI (0 : Int)]) (S' := S) rfl ?_
          refine es_icmp rfl 113 rfl ⟨by decide, by decide⟩ ⟨by omega, by omega⟩ (fun (g78 : ch < (0 : Int)) => ?_) (fun (g78 : ¬ (ch < (0 : Int))) => ?_)
          · refine es_s0 2 (pc' := 12) (ls' := [some (aR 6 (0 : Int)), some (aI l), some (aI ch), some (aI (s + 1)), some (aI (0 : Int)), some (aI (1 : Int))]) (st' := []) (S' := S) rfl ?_
            refine ih (n - 1) (by omega) S (s + 1) _ _ (by omega) (by omega) hT hR h14 hK (fun d a b c => ?_)
            have hsd := hD d a b c
            suffices hne : ¬ d l = s by omega
            intro e
            replace c : ctL W l (d l) + cW W d j (l + 1) ≤ ch := c
            have hcn : 0 ≤ cW W d j (l + 1) := (cs_b (d := d) (ctL_b W) j (l + 1)).1
            rw [e] at c
            first
              | omega
              | (have ho := vW_op a b (m := l) (by omega) (by omega)
                 rw [e] at ho
                 exact hop ho)
          · refine es_s0 3 (pc' := 84) (ls' := [some (aR 6 (0 : Int)), some (aI l), some (aI ch), some (aI s), some (aI (0 : Int)), some (aI (1 : Int))]) (st' := [aI s, aI l, aR 6 (0 : Int)]) (S' := S) rfl ?_
            refine es_callV rfl rfl 6 (0 : Int) [aI l, aI s] [] rfl rfl rfl rfl (Nat.le_of_ble_eq_true rfl) (Nat.le_of_ble_eq_true rfl) (Nat.le_of_ble_eq_true rfl) ?_
            refine m101 (W := W) (nn := nn) (D := D) hn5 (by omega) (by omega) (fun S1 j1 j2 => ?_) (fun S1 mm j1 j2 j3 => ?_) hT.1 hT.2.1 hR
            · show Es G 102 87 [some (aR 6 (0 : Int)), some (aI l), some (aI ch), some (aI s), some (aI (0 : Int)), some (aI (1 : Int))] [aI (1 : Int)] S1 _ _
              refine es_rg (fun hg2 => ?_)
              refine es_if rfl 113 rfl ⟨by decide, by decide⟩ (fun (g87 : (1 : Int) = (0 : Int)) => absurd g87 (by decide)) (fun (g87 : ¬ ((1 : Int) = (0 : Int))) => ?_)
              refine es_sg 5 (p := ((0 : Int) = 0) ∧ ((((0 : Int) = 0) ∧ (0 ≤ l ∧ l < 5)) ∧ (r32 s))) (pc' := 97) (ls' := [some (aR 6 (0 : Int)), some (aI l), some (aI ch), some (aI s), some (aI (0 : Int)), some (aI (1 : Int))]) (st' := []) (S' := su S1 14 0 l s) rfl ⟨rfl, ⟨⟨rfl, (by omega)⟩, ⟨by omega, by omega⟩⟩⟩ ?_
              refine es_rg (fun hg3 => ?_)
              have hks : Kc S1 (su S1 14 0 l s) l := ⟨fun t a b => su_tt _ b, fun i a => rfl, fun i a => suO (fun _ q _ => by omega)⟩
              refine es_s0 6 (pc' := 104) (ls' := [some (aR 6 (0 : Int)), some (aI l), some (aI ch), some (aI s), some (aI (0 : Int)), some (aI (1 : Int))]) (st' := [aI (0 : Int), aI ch, aI (l + 1), aR 6 (0 : Int)]) (S' := su S1 14 0 l s) rfl ?_
              refine es_s0 1 (pc' := 105) (ls' := [some (aR 6 (0 : Int)), some (aI l), some (aI ch), some (aI s), some (aI (0 : Int)), some (aI (1 : Int))]) (st' := [aI (ch - 0), aI (l + 1), aR 6 (0 : Int)]) (S' := su S1 14 0 l s) rfl ?_
              refine es_callV rfl rfl 6 (0 : Int) [aI (l + 1), aI (ch - 0)] [] rfl rfl rfl rfl (Nat.le_of_ble_eq_true rfl) (Nat.le_of_ble_eq_true rfl) (Nat.le_of_ble_eq_true rfl) ?_
              refine ihj _ _ (su S1 14 0 l s) (l + 1) (ch - 0) (dS D l s) (by omega) (by omega) ?_ ?_ (vW_next hV (by omega) hop) (fun i a b => ?_) (fun S2 q1 q2 q3 q4 => ?_) (fun S2 q1 q2 => ?_)
              · exact (hT.kc j1.kc).kc hks
              · exact fun m a b => j2 m a b
              · rw [suA]
                by_cases e : i = l
                · subst e; rw [if_pos rfl, dS_is]
                · rw [if_neg e, dS_off e, j1.1 14 (by decide)]
                  exact h14 i a (by omega)
              · show Es G 102 108 [some (aR 6 (0 : Int)), some (aI l), some (aI ch), some (aI s), some (aI (0 : Int)), some (aI (1 : Int))] [aI (1 : Int)] S2 _ _
                refine es_rg (fun hg4 => ?_)
                refine es_if rfl 113 rfl ⟨by decide, by decide⟩ (fun (g108 : (1 : Int) = (0 : Int)) => absurd g108 (by decide)) (fun (g108 : ¬ ((1 : Int) = (0 : Int))) => ?_)
                refine es_s0 1 (pc' := 112) (ls' := [some (aR 6 (0 : Int)), some (aI l), some (aI ch), some (aI s), some (aI (0 : Int)), some (aI (1 : Int))]) (st' := [aI (1 : Int)]) (S' := S2) rfl ?_
                refine es_iret rfl rfl rfl (Or.inr ⟨rfl, (by decide)⟩) ?_
                have es : S2 14 0 l = s := by rw [q1.2.2 l (by omega), suA, if_pos rfl]
                refine h1 S2 ((hK.tr (j1.kc.tr hks)).tr q1.up) q2 ?_ (fun d a b c => ?_)
                · show ctL W l (S2 14 0 l) + cW W (S2 14 0) j (l + 1) ≤ ch
                  rw [es, hct]
                  omega
                · have hsd := hD d a b c
                  replace c : ctL W l (d l) + cW W d j (l + 1) ≤ ch := c
                  by_cases e : d l = s
                  · rw [e, hct] at c
                    exact q4 d a (dS_ag b e) (by omega)
                  · have hv : vl (S2 14 0) (l.toNat + 1) < vl d (l.toNat + 1) := by
                      show 8 * vl (S2 14 0) l.toNat + S2 14 0 (l.toNat : Int) < 8 * vl d l.toNat + d (l.toNat : Int)
                      rw [show ((l.toNat : Nat) : Int) = l from by omega, es, vl_ext l.toNat (d := S2 14 0) (e := d) (fun i i0 i1 => by
                        rw [q1.2.2 i (by omega), suO (fun _ q _ => by omega), j1.1 14 (by decide), h14 i i0 (by omega), b i i0 (by omega)])]
                      omega
                    have en : nn.toNat = l.toNat + 1 + j := by omega
                    rw [en]
                    have q := vl_mono (l.toNat + 1) j (d := S2 14 0) (e := d) (by rw [← en, show ((nn.toNat : Nat) : Int) = nn from by omega]; exact q2.dg) (by rw [← en, show ((nn.toNat : Nat) : Int) = nn from by omega]; exact a.dg) hv
                    omega
              · show Es G 102 108 [some (aR 6 (0 : Int)), some (aI l), some (aI ch), some (aI s), some (aI (0 : Int)), some (aI (1 : Int))] [aI (0 : Int)] S2 _ _
                refine es_rg (fun hg5 => ?_)
                refine es_if rfl 113 rfl ⟨by decide, by decide⟩ (fun (g108 : (0 : Int) = (0 : Int)) => ?_) (fun (g108 : ¬ ((0 : Int) = (0 : Int))) => absurd g108 (by decide))
                refine es_s0 2 (pc' := 12) (ls' := [some (aR 6 (0 : Int)), some (aI l), some (aI ch), some (aI (s + 1)), some (aI (0 : Int)), some (aI (1 : Int))]) (st' := []) (S' := S2) rfl ?_
                refine ih (n - 1) (by omega) S2 (s + 1) _ _ (by omega) (by omega) (((hT.kc j1.kc).kc hks).kc q1.up) ((hR.kc hn5 (j1.kc.tr hks)).kc hn5 q1.up) (fun i a b => by rw [q1.2.2 i (by omega), suO (fun _ q _ => by omega), j1.1 14 (by decide)]; exact h14 i a b) ((hK.tr (j1.kc.tr hks)).tr q1.up) (fun d a b c => ?_)
                have hsd := hD d a b c
                suffices hne : ¬ d l = s by omega
                intro e
                replace c : ctL W l (d l) + cW W d j (l + 1) ≤ ch := c
                have hcn : 0 ≤ cW W d j (l + 1) := (cs_b (d := d) (ctL_b W) j (l + 1)).1
                rw [e] at c
                exact q2 d a (dS_ag b e) (by omega)
            · show Es G 102 87 [some (aR 6 (0 : Int)), some (aI l), some (aI ch), some (aI s), some (aI (0 : Int)), some (aI (1 : Int))] [aI (0 : Int)] S1 _ _
              refine es_rg (fun hg6 => ?_)
              refine es_if rfl 113 rfl ⟨by decide, by decide⟩ (fun (g87 : (0 : Int) = (0 : Int)) => ?_) (fun (g87 : ¬ ((0 : Int) = (0 : Int))) => absurd g87 (by decide))
              refine es_s0 2 (pc' := 12) (ls' := [some (aR 6 (0 : Int)), some (aI l), some (aI ch), some (aI (s + 1)), some (aI (0 : Int)), some (aI (1 : Int))]) (st' := []) (S' := S1) rfl ?_
              refine ih (n - 1) (by omega) S1 (s + 1) _ _ (by omega) (by omega) (hT.kc j1.kc) (hR.kc hn5 j1.kc) (fun i a b => by rw [j1.1 14 (by decide)]; exact h14 i a b) (hK.tr j1.kc) (fun d a b c => ?_)
              have hsd := hD d a b c
              suffices hne : ¬ d l = s by omega
              intro e
              replace c : ctL W l (d l) + cW W d j (l + 1) ≤ ch := c
              have hcn : 0 ≤ cW W d j (l + 1) := (cs_b (d := d) (ctL_b W) j (l + 1)).1
              rw [e] at c
              have hdm := a.1 mm (by omega) (by omega)
              exact j3 (d mm) hdm.1.1 hdm.1.2 (vW_op a (dS_ag b e) (by omega) (by omega))
      · refine es_sg 5 (p := ((0 : Int) = 0) ∧ (((0 : Int) = 0) ∧ (0 ≤ l ∧ l < 5))) (pc' := 35) (ls' := [some (aR 6 (0 : Int)), some (aI l), some (aI ch), some (aI s), o, o']) (st' := [aI s, aI (S 13 0 l)]) (S' := S) rfl ⟨rfl, ⟨rfl, (by omega)⟩⟩ ?_
        refine es_icmp rfl 42 rfl (rgI hg1 (t := 13) (i := (0 : Int)) (q := l) (by omega : 0 ≤ (0 : Int) ∧ (0 : Int) < 1) (by omega) rfl) ⟨by omega, by omega⟩ (fun (g35 : ¬ (S 13 0 l) = s) => ?_) (fun (g35 : ¬ (¬ (S 13 0 l) = s)) => ?_)
        · refine es_s0 1 (pc' := 43) (ls' := [some (aR 6 (0 : Int)), some (aI l), some (aI ch), some (aI s), o, o']) (st' := [aI (1 : Int)]) (S' := S) rfl ?_
          have hct : ctL W l s = 1 := by
            unfold ctL
            rw [← e13]
            rw [if_neg (by omega)]
          refine es_sg 6 (p := (0 : Int) = 0) (pc' := 52) (ls' := [some (aR 6 (0 : Int)), some (aI l), some (aI ch), some (aI s), some (aI (1 : Int)), o']) (st' := [aI (l * 5), aR 12 (0 : Int)]) (S' := S) rfl rfl ?_
          refine es_sg 6 (p := ((0 : Int) = 0) ∧ (0 ≤ ((l * 5) + l) ∧ ((l * 5) + l) < 30)) (pc' := 58) (ls' := [some (aR 6 (0 : Int)), some (aI l), some (aI ch), some (aI s), some (aI (1 : Int)), o']) (st' := [aI (1 : Int), aI (aShr (S 12 0 ((l * 5) + l)) s)]) (S' := S) rfl ⟨rfl, (by omega)⟩ ?_
          refine es_s0 2 (pc' := 60) (ls' := [some (aR 6 (0 : Int)), some (aI l), some (aI ch), some (aI s), some (aI (1 : Int)), o']) (st' := [aI (1 : Int), aI (aAnd (aShr (S 12 0 ((l * 5) + l)) s) (1 : Int))]) (S' := S) rfl ?_
          refine es_icmp rfl 67 rfl (r32_of _) ⟨by decide, by decide⟩ (fun (g60 : ¬ (aAnd (aShr (S 12 0 ((l * 5) + l)) s) (1 : Int)) = (1 : Int)) => ?_) (fun (g60 : ¬ (¬ (aAnd (aShr (S 12 0 ((l * 5) + l)) s) (1 : Int)) = (1 : Int))) => ?_)
          · refine es_s0 1 (pc' := 68) (ls' := [some (aR 6 (0 : Int)), some (aI l), some (aI ch), some (aI s), some (aI (1 : Int)), o']) (st' := [aI (0 : Int)]) (S' := S) rfl ?_
            have hop : ¬ opF W D l l s := fun q => g60 ((b8_in (by omega)).mpr (hb8.mpr ⟨q, by omega⟩))
            refine es_s0 2 (pc' := 72) (ls' := [some (aR 6 (0 : Int)), some (aI l), some (aI ch), some (aI s), some (aI (1 : Int)), some (aI (0 : Int))]) (st' := [aI (0 : Int)]) (S' := S) rfl ?_
            refine es_if rfl 113 rfl ⟨by decide, by decide⟩ (fun (g72 : (0 : Int) = (0 : Int)) => ?_) (fun (g72 : ¬ ((0 : Int) = (0 : Int))) => absurd g72 (by decide))
            refine es_s0 2 (pc' := 12) (ls' := [some (aR 6 (0 : Int)), some (aI l), some (aI ch), some (aI (s + 1)), some (aI (1 : Int)), some (aI (0 : Int))]) (st' := []) (S' := S) rfl ?_
            refine ih (n - 1) (by omega) S (s + 1) _ _ (by omega) (by omega) hT hR h14 hK (fun d a b c => ?_)
            have hsd := hD d a b c
            suffices hne : ¬ d l = s by omega
            intro e
            replace c : ctL W l (d l) + cW W d j (l + 1) ≤ ch := c
            have hcn : 0 ≤ cW W d j (l + 1) := (cs_b (d := d) (ctL_b W) j (l + 1)).1
            rw [e] at c
            first
              | omega
              | (have ho := vW_op a b (m := l) (by omega) (by omega)
                 rw [e] at ho
                 exact hop ho)
          · refine es_s0 2 (pc' := 68) (ls' := [some (aR 6 (0 : Int)), some (aI l), some (aI ch), some (aI s), some (aI (1 : Int)), o']) (st' := [aI (1 : Int)]) (S' := S) rfl ?_
            have hop : opF W D l l s := ((hb8.mp ((b8_in (by omega)).mp (Decidable.not_not.mp g60))).1)
            refine es_s0 2 (pc' := 72) (ls' := [some (aR 6 (0 : Int)), some (aI l), some (aI ch), some (aI s), some (aI (1 : Int)), some (aI (1 : Int))]) (st' := [aI (1 : Int)]) (S' := S) rfl ?_
            refine es_if rfl 113 rfl ⟨by decide, by decide⟩ (fun (g72 : (1 : Int) = (0 : Int)) => absurd g72 (by decide)) (fun (g72 : ¬ ((1 : Int) = (0 : Int))) => ?_)
            refine es_s0 2 (pc' := 78) (ls' := [some (aR 6 (0 : Int)), some (aI l), some (aI ch), some (aI s), some (aI (1 : Int)), some (aI (1 : Int))]) (st' := [aI ch, aI (1 : Int)]) (S' := S) rfl ?_
            refine es_icmp rfl 113 rfl ⟨by decide, by decide⟩ ⟨by omega, by omega⟩ (fun (g78 : ch < (1 : Int)) => ?_) (fun (g78 : ¬ (ch < (1 : Int))) => ?_)
            · refine es_s0 2 (pc' := 12) (ls' := [some (aR 6 (0 : Int)), some (aI l), some (aI ch), some (aI (s + 1)), some (aI (1 : Int)), some (aI (1 : Int))]) (st' := []) (S' := S) rfl ?_
              refine ih (n - 1) (by omega) S (s + 1) _ _ (by omega) (by omega) hT hR h14 hK (fun d a b c => ?_)
              have hsd := hD d a b c
              suffices hne : ¬ d l = s by omega
              intro e
              replace c : ctL W l (d l) + cW W d j (l + 1) ≤ ch := c
              have hcn : 0 ≤ cW W d j (l + 1) := (cs_b (d := d) (ctL_b W) j (l + 1)).1
              rw [e] at c
              first
                | omega
                | (have ho := vW_op a b (m := l) (by omega) (by omega)
                   rw [e] at ho
                   exact hop ho)
            · refine es_s0 3 (pc' := 84) (ls' := [some (aR 6 (0 : Int)), some (aI l), some (aI ch), some (aI s), some (aI (1 : Int)), some (aI (1 : Int))]) (st' := [aI s, aI l, aR 6 (0 : Int)]) (S' := S) rfl ?_
              refine es_callV rfl rfl 6 (0 : Int) [aI l, aI s] [] rfl rfl rfl rfl (Nat.le_of_ble_eq_true rfl) (Nat.le_of_ble_eq_true rfl) (Nat.le_of_ble_eq_true rfl) ?_
              refine m101 (W := W) (nn := nn) (D := D) hn5 (by omega) (by omega) (fun S1 j1 j2 => ?_) (fun S1 mm j1 j2 j3 => ?_) hT.1 hT.2.1 hR
              · show Es G 102 87 [some (aR 6 (0 : Int)), some (aI l), some (aI ch), some (aI s), some (aI (1 : Int)), some (aI (1 : Int))] [aI (1 : Int)] S1 _ _
                refine es_rg (fun hg7 => ?_)
                refine es_if rfl 113 rfl ⟨by decide, by decide⟩ (fun (g87 : (1 : Int) = (0 : Int)) => absurd g87 (by decide)) (fun (g87 : ¬ ((1 : Int) = (0 : Int))) => ?_)
                refine es_sg 5 (p := ((0 : Int) = 0) ∧ ((((0 : Int) = 0) ∧ (0 ≤ l ∧ l < 5)) ∧ (r32 s))) (pc' := 97) (ls' := [some (aR 6 (0 : Int)), some (aI l), some (aI ch), some (aI s), some (aI (1 : Int)), some (aI (1 : Int))]) (st' := []) (S' := su S1 14 0 l s) rfl ⟨rfl, ⟨⟨rfl, (by omega)⟩, ⟨by omega, by omega⟩⟩⟩ ?_
                refine es_rg (fun hg8 => ?_)
                have hks : Kc S1 (su S1 14 0 l s) l := ⟨fun t a b => su_tt _ b, fun i a => rfl, fun i a => suO (fun _ q _ => by omega)⟩
                refine es_s0 6 (pc' := 104) (ls' := [some (aR 6 (0 : Int)), some (aI l), some (aI ch), some (aI s), some (aI (1 : Int)), some (aI (1 : Int))]) (st' := [aI (1 : Int), aI ch, aI (l + 1), aR 6 (0 : Int)]) (S' := su S1 14 0 l s) rfl ?_
                refine es_s0 1 (pc' := 105) (ls' := [some (aR 6 (0 : Int)), some (aI l), some (aI ch), some (aI s), some (aI (1 : Int)), some (aI (1 : Int))]) (st' := [aI (ch - 1), aI (l + 1), aR 6 (0 : Int)]) (S' := su S1 14 0 l s) rfl ?_
                refine es_callV rfl rfl 6 (0 : Int) [aI (l + 1), aI (ch - 1)] [] rfl rfl rfl rfl (Nat.le_of_ble_eq_true rfl) (Nat.le_of_ble_eq_true rfl) (Nat.le_of_ble_eq_true rfl) ?_
                refine ihj _ _ (su S1 14 0 l s) (l + 1) (ch - 1) (dS D l s) (by omega) (by omega) ?_ ?_ (vW_next hV (by omega) hop) (fun i a b => ?_) (fun S2 q1 q2 q3 q4 => ?_) (fun S2 q1 q2 => ?_)
                · exact (hT.kc j1.kc).kc hks
                · exact fun m a b => j2 m a b
                · rw [suA]
                  by_cases e : i = l
                  · subst e; rw [if_pos rfl, dS_is]
                  · rw [if_neg e, dS_off e, j1.1 14 (by decide)]
                    exact h14 i a (by omega)
                · show Es G 102 108 [some (aR 6 (0 : Int)), some (aI l), some (aI ch), some (aI s), some (aI (1 : Int)), some (aI (1 : Int))] [aI (1 : Int)] S2 _ _
                  refine es_rg (fun hg9 => ?_)
                  refine es_if rfl 113 rfl ⟨by decide, by decide⟩ (fun (g108 : (1 : Int) = (0 : Int)) => absurd g108 (by decide)) (fun (g108 : ¬ ((1 : Int) = (0 : Int))) => ?_)
                  refine es_s0 1 (pc' := 112) (ls' := [some (aR 6 (0 : Int)), some (aI l), some (aI ch), some (aI s), some (aI (1 : Int)), some (aI (1 : Int))]) (st' := [aI (1 : Int)]) (S' := S2) rfl ?_
                  refine es_iret rfl rfl rfl (Or.inr ⟨rfl, (by decide)⟩) ?_
                  have es : S2 14 0 l = s := by rw [q1.2.2 l (by omega), suA, if_pos rfl]
                  refine h1 S2 ((hK.tr (j1.kc.tr hks)).tr q1.up) q2 ?_ (fun d a b c => ?_)
                  · show ctL W l (S2 14 0 l) + cW W (S2 14 0) j (l + 1) ≤ ch
                    rw [es, hct]
                    omega
                  · have hsd := hD d a b c
                    replace c : ctL W l (d l) + cW W d j (l + 1) ≤ ch := c
                    by_cases e : d l = s
                    · rw [e, hct] at c
                      exact q4 d a (dS_ag b e) (by omega)
                    · have hv : vl (S2 14 0) (l.toNat + 1) < vl d (l.toNat + 1) := by
                        show 8 * vl (S2 14 0) l.toNat + S2 14 0 (l.toNat : Int) < 8 * vl d l.toNat + d (l.toNat : Int)
                        rw [show ((l.toNat : Nat) : Int) = l from by omega, es, vl_ext l.toNat (d := S2 14 0) (e := d) (fun i i0 i1 => by
                          rw [q1.2.2 i (by omega), suO (fun _ q _ => by omega), j1.1 14 (by decide), h14 i i0 (by omega), b i i0 (by omega)])]
                        omega
                      have en : nn.toNat = l.toNat + 1 + j := by omega
                      rw [en]
                      have q := vl_mono (l.toNat + 1) j (d := S2 14 0) (e := d) (by rw [← en, show ((nn.toNat : Nat) : Int) = nn from by omega]; exact q2.dg) (by rw [← en, show ((nn.toNat : Nat) : Int) = nn from by omega]; exact a.dg) hv
                      omega
                · show Es G 102 108 [some (aR 6 (0 : Int)), some (aI l), some (aI ch), some (aI s), some (aI (1 : Int)), some (aI (1 : Int))] [aI (0 : Int)] S2 _ _
                  refine es_rg (fun hg10 => ?_)
                  refine es_if rfl 113 rfl ⟨by decide, by decide⟩ (fun (g108 : (0 : Int) = (0 : Int)) => ?_) (fun (g108 : ¬ ((0 : Int) = (0 : Int))) => absurd g108 (by decide))
                  refine es_s0 2 (pc' := 12) (ls' := [some (aR 6 (0 : Int)), some (aI l), some (aI ch), some (aI (s + 1)), some (aI (1 : Int)), some (aI (1 : Int))]) (st' := []) (S' := S2) rfl ?_
                  refine ih (n - 1) (by omega) S2 (s + 1) _ _ (by omega) (by omega) (((hT.kc j1.kc).kc hks).kc q1.up) ((hR.kc hn5 (j1.kc.tr hks)).kc hn5 q1.up) (fun i a b => by rw [q1.2.2 i (by omega), suO (fun _ q _ => by omega), j1.1 14 (by decide)]; exact h14 i a b) ((hK.tr (j1.kc.tr hks)).tr q1.up) (fun d a b c => ?_)
                  have hsd := hD d a b c
                  suffices hne : ¬ d l = s by omega
                  intro e
                  replace c : ctL W l (d l) + cW W d j (l + 1) ≤ ch := c
                  have hcn : 0 ≤ cW W d j (l + 1) := (cs_b (d := d) (ctL_b W) j (l + 1)).1
                  rw [e] at c
                  exact q2 d a (dS_ag b e) (by omega)
              · show Es G 102 87 [some (aR 6 (0 : Int)), some (aI l), some (aI ch), some (aI s), some (aI (1 : Int)), some (aI (1 : Int))] [aI (0 : Int)] S1 _ _
                refine es_rg (fun hg11 => ?_)
                refine es_if rfl 113 rfl ⟨by decide, by decide⟩ (fun (g87 : (0 : Int) = (0 : Int)) => ?_) (fun (g87 : ¬ ((0 : Int) = (0 : Int))) => absurd g87 (by decide))
                refine es_s0 2 (pc' := 12) (ls' := [some (aR 6 (0 : Int)), some (aI l), some (aI ch), some (aI (s + 1)), some (aI (1 : Int)), some (aI (1 : Int))]) (st' := []) (S' := S1) rfl ?_
                refine ih (n - 1) (by omega) S1 (s + 1) _ _ (by omega) (by omega) (hT.kc j1.kc) (hR.kc hn5 j1.kc) (fun i a b => by rw [j1.1 14 (by decide)]; exact h14 i a b) (hK.tr j1.kc) (fun d a b c => ?_)
                have hsd := hD d a b c
                suffices hne : ¬ d l = s by omega
                intro e
                replace c : ctL W l (d l) + cW W d j (l + 1) ≤ ch := c
                have hcn : 0 ≤ cW W d j (l + 1) := (cs_b (d := d) (ctL_b W) j (l + 1)).1
                rw [e] at c
                have hdm := a.1 mm (by omega) (by omega)
                exact j3 (d mm) hdm.1.1 hdm.1.2 (vW_op a (dS_ag b e) (by omega) (by omega))
        · refine es_s0 2 (pc' := 43) (ls' := [some (aR 6 (0 : Int)), some (aI l), some (aI ch), some (aI s), o, o']) (st' := [aI (0 : Int)]) (S' := S) rfl ?_
          have hct : ctL W l s = 0 := by
            unfold ctL
            rw [← e13]
            rw [if_pos (by omega)]
          refine es_sg 6 (p := (0 : Int) = 0) (pc' := 52) (ls' := [some (aR 6 (0 : Int)), some (aI l), some (aI ch), some (aI s), some (aI (0 : Int)), o']) (st' := [aI (l * 5), aR 12 (0 : Int)]) (S' := S) rfl rfl ?_
          refine es_sg 6 (p := ((0 : Int) = 0) ∧ (0 ≤ ((l * 5) + l) ∧ ((l * 5) + l) < 30)) (pc' := 58) (ls' := [some (aR 6 (0 : Int)), some (aI l), some (aI ch), some (aI s), some (aI (0 : Int)), o']) (st' := [aI (1 : Int), aI (aShr (S 12 0 ((l * 5) + l)) s)]) (S' := S) rfl ⟨rfl, (by omega)⟩ ?_
          refine es_s0 2 (pc' := 60) (ls' := [some (aR 6 (0 : Int)), some (aI l), some (aI ch), some (aI s), some (aI (0 : Int)), o']) (st' := [aI (1 : Int), aI (aAnd (aShr (S 12 0 ((l * 5) + l)) s) (1 : Int))]) (S' := S) rfl ?_
          refine es_icmp rfl 67 rfl (r32_of _) ⟨by decide, by decide⟩ (fun (g60 : ¬ (aAnd (aShr (S 12 0 ((l * 5) + l)) s) (1 : Int)) = (1 : Int)) => ?_) (fun (g60 : ¬ (¬ (aAnd (aShr (S 12 0 ((l * 5) + l)) s) (1 : Int)) = (1 : Int))) => ?_)
          · refine es_s0 1 (pc' := 68) (ls' := [some (aR 6 (0 : Int)), some (aI l), some (aI ch), some (aI s), some (aI (0 : Int)), o']) (st' := [aI (0 : Int)]) (S' := S) rfl ?_
            have hop : ¬ opF W D l l s := fun q => g60 ((b8_in (by omega)).mpr (hb8.mpr ⟨q, by omega⟩))
            refine es_s0 2 (pc' := 72) (ls' := [some (aR 6 (0 : Int)), some (aI l), some (aI ch), some (aI s), some (aI (0 : Int)), some (aI (0 : Int))]) (st' := [aI (0 : Int)]) (S' := S) rfl ?_
            refine es_if rfl 113 rfl ⟨by decide, by decide⟩ (fun (g72 : (0 : Int) = (0 : Int)) => ?_) (fun (g72 : ¬ ((0 : Int) = (0 : Int))) => absurd g72 (by decide))
            refine es_s0 2 (pc' := 12) (ls' := [some (aR 6 (0 : Int)), some (aI l), some (aI ch), some (aI (s + 1)), some (aI (0 : Int)), some (aI (0 : Int))]) (st' := []) (S' := S) rfl ?_
            refine ih (n - 1) (by omega) S (s + 1) _ _ (by omega) (by omega) hT hR h14 hK (fun d a b c => ?_)
            have hsd := hD d a b c
            suffices hne : ¬ d l = s by omega
            intro e
            replace c : ctL W l (d l) + cW W d j (l + 1) ≤ ch := c
            have hcn : 0 ≤ cW W d j (l + 1) := (cs_b (d := d) (ctL_b W) j (l + 1)).1
            rw [e] at c
            first
              | omega
              | (have ho := vW_op a b (m := l) (by omega) (by omega)
                 rw [e] at ho
                 exact hop ho)
          · refine es_s0 2 (pc' := 68) (ls' := [some (aR 6 (0 : Int)), some (aI l), some (aI ch), some (aI s), some (aI (0 : Int)), o']) (st' := [aI (1 : Int)]) (S' := S) rfl ?_
            have hop : opF W D l l s := ((hb8.mp ((b8_in (by omega)).mp (Decidable.not_not.mp g60))).1)
            refine es_s0 2 (pc' := 72) (ls' := [some (aR 6 (0 : Int)), some (aI l), some (aI ch), some (aI s), some (aI (0 : Int)), some (aI (1 : Int))]) (st' := [aI (1 : Int)]) (S' := S) rfl ?_
            refine es_if rfl 113 rfl ⟨by decide, by decide⟩ (fun (g72 : (1 : Int) = (0 : Int)) => absurd g72 (by decide)) (fun (g72 : ¬ ((1 : Int) = (0 : Int))) => ?_)
            refine es_s0 2 (pc' := 78) (ls' := [some (aR 6 (0 : Int)), some (aI l), some (aI ch), some (aI s), some (aI (0 : Int)), some (aI (1 : Int))]) (st' := [aI ch, aI (0 : Int)]) (S' := S) rfl ?_
            refine es_icmp rfl 113 rfl ⟨by decide, by decide⟩ ⟨by omega, by omega⟩ (fun (g78 : ch < (0 : Int)) => ?_) (fun (g78 : ¬ (ch < (0 : Int))) => ?_)
            · refine es_s0 2 (pc' := 12) (ls' := [some (aR 6 (0 : Int)), some (aI l), some (aI ch), some (aI (s + 1)), some (aI (0 : Int)), some (aI (1 : Int))]) (st' := []) (S' := S) rfl ?_
              refine ih (n - 1) (by omega) S (s + 1) _ _ (by omega) (by omega) hT hR h14 hK (fun d a b c => ?_)
              have hsd := hD d a b c
              suffices hne : ¬ d l = s by omega
              intro e
              replace c : ctL W l (d l) + cW W d j (l + 1) ≤ ch := c
              have hcn : 0 ≤ cW W d j (l + 1) := (cs_b (d := d) (ctL_b W) j (l + 1)).1
              rw [e] at c
              first
                | omega
                | (have ho := vW_op a b (m := l) (by omega) (by omega)
                   rw [e] at ho
                   exact hop ho)
            · refine es_s0 3 (pc' := 84) (ls' := [some (aR 6 (0 : Int)), some (aI l), some (aI ch), some (aI s), some (aI (0 : Int)), some (aI (1 : Int))]) (st' := [aI s, aI l, aR 6 (0 : Int)]) (S' := S) rfl ?_
              refine es_callV rfl rfl 6 (0 : Int) [aI l, aI s] [] rfl rfl rfl rfl (Nat.le_of_ble_eq_true rfl) (Nat.le_of_ble_eq_true rfl) (Nat.le_of_ble_eq_true rfl) ?_
              refine m101 (W := W) (nn := nn) (D := D) hn5 (by omega) (by omega) (fun S1 j1 j2 => ?_) (fun S1 mm j1 j2 j3 => ?_) hT.1 hT.2.1 hR
              · show Es G 102 87 [some (aR 6 (0 : Int)), some (aI l), some (aI ch), some (aI s), some (aI (0 : Int)), some (aI (1 : Int))] [aI (1 : Int)] S1 _ _
                refine es_rg (fun hg12 => ?_)
                refine es_if rfl 113 rfl ⟨by decide, by decide⟩ (fun (g87 : (1 : Int) = (0 : Int)) => absurd g87 (by decide)) (fun (g87 : ¬ ((1 : Int) = (0 : Int))) => ?_)
                refine es_sg 5 (p := ((0 : Int) = 0) ∧ ((((0 : Int) = 0) ∧ (0 ≤ l ∧ l < 5)) ∧ (r32 s))) (pc' := 97) (ls' := [some (aR 6 (0 : Int)), some (aI l), some (aI ch), some (aI s), some (aI (0 : Int)), some (aI (1 : Int))]) (st' := []) (S' := su S1 14 0 l s) rfl ⟨rfl, ⟨⟨rfl, (by omega)⟩, ⟨by omega, by omega⟩⟩⟩ ?_
                refine es_rg (fun hg13 => ?_)
                have hks : Kc S1 (su S1 14 0 l s) l := ⟨fun t a b => su_tt _ b, fun i a => rfl, fun i a => suO (fun _ q _ => by omega)⟩
                refine es_s0 6 (pc' := 104) (ls' := [some (aR 6 (0 : Int)), some (aI l), some (aI ch), some (aI s), some (aI (0 : Int)), some (aI (1 : Int))]) (st' := [aI (0 : Int), aI ch, aI (l + 1), aR 6 (0 : Int)]) (S' := su S1 14 0 l s) rfl ?_
                refine es_s0 1 (pc' := 105) (ls' := [some (aR 6 (0 : Int)), some (aI l), some (aI ch), some (aI s), some (aI (0 : Int)), some (aI (1 : Int))]) (st' := [aI (ch - 0), aI (l + 1), aR 6 (0 : Int)]) (S' := su S1 14 0 l s) rfl ?_
                refine es_callV rfl rfl 6 (0 : Int) [aI (l + 1), aI (ch - 0)] [] rfl rfl rfl rfl (Nat.le_of_ble_eq_true rfl) (Nat.le_of_ble_eq_true rfl) (Nat.le_of_ble_eq_true rfl) ?_
                refine ihj _ _ (su S1 14 0 l s) (l + 1) (ch - 0) (dS D l s) (by omega) (by omega) ?_ ?_ (vW_next hV (by omega) hop) (fun i a b => ?_) (fun S2 q1 q2 q3 q4 => ?_) (fun S2 q1 q2 => ?_)
                · exact (hT.kc j1.kc).kc hks
                · exact fun m a b => j2 m a b
                · rw [suA]
                  by_cases e : i = l
                  · subst e; rw [if_pos rfl, dS_is]
                  · rw [if_neg e, dS_off e, j1.1 14 (by decide)]
                    exact h14 i a (by omega)
                · show Es G 102 108 [some (aR 6 (0 : Int)), some (aI l), some (aI ch), some (aI s), some (aI (0 : Int)), some (aI (1 : Int))] [aI (1 : Int)] S2 _ _
                  refine es_rg (fun hg14 => ?_)
                  refine es_if rfl 113 rfl ⟨by decide, by decide⟩ (fun (g108 : (1 : Int) = (0 : Int)) => absurd g108 (by decide)) (fun (g108 : ¬ ((1 : Int) = (0 : Int))) => ?_)
                  refine es_s0 1 (pc' := 112) (ls' := [some (aR 6 (0 : Int)), some (aI l), some (aI ch), some (aI s), some (aI (0 : Int)), some (aI (1 : Int))]) (st' := [aI (1 : Int)]) (S' := S2) rfl ?_
                  refine es_iret rfl rfl rfl (Or.inr ⟨rfl, (by decide)⟩) ?_
                  have es : S2 14 0 l = s := by rw [q1.2.2 l (by omega), suA, if_pos rfl]
                  refine h1 S2 ((hK.tr (j1.kc.tr hks)).tr q1.up) q2 ?_ (fun d a b c => ?_)
                  · show ctL W l (S2 14 0 l) + cW W (S2 14 0) j (l + 1) ≤ ch
                    rw [es, hct]
                    omega
                  · have hsd := hD d a b c
                    replace c : ctL W l (d l) + cW W d j (l + 1) ≤ ch := c
                    by_cases e : d l = s
                    · rw [e, hct] at c
                      exact q4 d a (dS_ag b e) (by omega)
                    · have hv : vl (S2 14 0) (l.toNat + 1) < vl d (l.toNat + 1) := by
                        show 8 * vl (S2 14 0) l.toNat + S2 14 0 (l.toNat : Int) < 8 * vl d l.toNat + d (l.toNat : Int)
                        rw [show ((l.toNat : Nat) : Int) = l from by omega, es, vl_ext l.toNat (d := S2 14 0) (e := d) (fun i i0 i1 => by
                          rw [q1.2.2 i (by omega), suO (fun _ q _ => by omega), j1.1 14 (by decide), h14 i i0 (by omega), b i i0 (by omega)])]
                        omega
                      have en : nn.toNat = l.toNat + 1 + j := by omega
                      rw [en]
                      have q := vl_mono (l.toNat + 1) j (d := S2 14 0) (e := d) (by rw [← en, show ((nn.toNat : Nat) : Int) = nn from by omega]; exact q2.dg) (by rw [← en, show ((nn.toNat : Nat) : Int) = nn from by omega]; exact a.dg) hv
                      omega
                · show Es G 102 108 [some (aR 6 (0 : Int)), some (aI l), some (aI ch), some (aI s), some (aI (0 : Int)), some (aI (1 : Int))] [aI (0 : Int)] S2 _ _
                  refine es_rg (fun hg15 => ?_)
                  refine es_if rfl 113 rfl ⟨by decide, by decide⟩ (fun (g108 : (0 : Int) = (0 : Int)) => ?_) (fun (g108 : ¬ ((0 : Int) = (0 : Int))) => absurd g108 (by decide))
                  refine es_s0 2 (pc' := 12) (ls' := [some (aR 6 (0 : Int)), some (aI l), some (aI ch), some (aI (s + 1)), some (aI (0 : Int)), some (aI (1 : Int))]) (st' := []) (S' := S2) rfl ?_
                  refine ih (n - 1) (by omega) S2 (s + 1) _ _ (by omega) (by omega) (((hT.kc j1.kc).kc hks).kc q1.up) ((hR.kc hn5 (j1.kc.tr hks)).kc hn5 q1.up) (fun i a b => by rw [q1.2.2 i (by omega), suO (fun _ q _ => by omega), j1.1 14 (by decide)]; exact h14 i a b) ((hK.tr (j1.kc.tr hks)).tr q1.up) (fun d a b c => ?_)
                  have hsd := hD d a b c
                  suffices hne : ¬ d l = s by omega
                  intro e
                  replace c : ctL W l (d l) + cW W d j (l + 1) ≤ ch := c
                  have hcn : 0 ≤ cW W d j (l + 1) := (cs_b (d := d) (ctL_b W) j (l + 1)).1
                  rw [e] at c
                  exact q2 d a (dS_ag b e) (by omega)
              · show Es G 102 87 [some (aR 6 (0 : Int)), some (aI l), some (aI ch), some (aI s), some (aI (0 : Int)), some (aI (1 : Int))] [aI (0 : Int)] S1 _ _
                refine es_rg (fun hg16 => ?_)
                refine es_if rfl 113 rfl ⟨by decide, by decide⟩ (fun (g87 : (0 : Int) = (0 : Int)) => ?_) (fun (g87 : ¬ ((0 : Int) = (0 : Int))) => absurd g87 (by decide))
                refine es_s0 2 (pc' := 12) (ls' := [some (aR 6 (0 : Int)), some (aI l), some (aI ch), some (aI (s + 1)), some (aI (0 : Int)), some (aI (1 : Int))]) (st' := []) (S' := S1) rfl ?_
                refine ih (n - 1) (by omega) S1 (s + 1) _ _ (by omega) (by omega) (hT.kc j1.kc) (hR.kc hn5 j1.kc) (fun i a b => by rw [j1.1 14 (by decide)]; exact h14 i a b) (hK.tr j1.kc) (fun d a b c => ?_)
                have hsd := hD d a b c
                suffices hne : ¬ d l = s by omega
                intro e
                replace c : ctL W l (d l) + cW W d j (l + 1) ≤ ch := c
                have hcn : 0 ≤ cW W d j (l + 1) := (cs_b (d := d) (ctL_b W) j (l + 1)).1
                rw [e] at c
                have hdm := a.1 mm (by omega) (by omega)
                exact j3 (d mm) hdm.1.1 hdm.1.2 (vW_op a (dS_ag b e) (by omega) (by omega))
theorem m102 {G : Gw} {W : Sg} {nn : Int} (hn5 : nn ≤ 5) : ∀ j : Nat, ChS G W nn j := by
  intro j
  induction j with
  | zero =>
    intro k Q S l ch D hl hch hT hR hV h14 h1 h0
    refine es_rg (fun hg1 => ?_)
    refine es_sg 3 (p := (0 : Int) = 0) (pc' := 5) (ls' := [some (aR 6 (0 : Int)), some (aI l), some (aI ch), none, none, none]) (st' := [aI (S 6 0 8), aI l]) (S' := S) rfl rfl ?_
    refine es_icmp rfl 10 rfl ⟨by omega, by omega⟩ (rgI hg1 (t := 6) (i := (0 : Int)) (q := (8 : Int)) (by omega : 0 ≤ (0 : Int) ∧ (0 : Int) < 1) (by omega) rfl) (fun (g5 : l < (S 6 0 8)) => ?_) (fun (g5 : ¬ (l < (S 6 0 8))) => ?_)
    · exfalso; have := hT.1; omega
    · refine es_s0 1 (pc' := 9) (ls' := [some (aR 6 (0 : Int)), some (aI l), some (aI ch), none, none, none]) (st' := [aI (1 : Int)]) (S' := S) rfl ?_
      refine es_iret rfl rfl rfl (Or.inr ⟨rfl, (by decide)⟩) ?_
      refine h1 S (Kc.rf S l) ?_ hch.1 (fun d a b c => ?_)
      · have e : nn = l := by omega
        rw [e]
        exact hV.ext h14
      · rw [vl_ext nn.toNat (d := S 14 0) (e := d) (fun i i0 i1 => by rw [h14 i i0 (by omega), b i i0 (by omega)])]
        exact Int.le_refl _
  | succ j ihj =>
    intro k Q S l ch D hl hch hT hR hV h14 h1 h0
    refine es_rg (fun hg1 => ?_)
    refine es_sg 3 (p := (0 : Int) = 0) (pc' := 5) (ls' := [some (aR 6 (0 : Int)), some (aI l), some (aI ch), none, none, none]) (st' := [aI (S 6 0 8), aI l]) (S' := S) rfl rfl ?_
    refine es_icmp rfl 10 rfl ⟨by omega, by omega⟩ (rgI hg1 (t := 6) (i := (0 : Int)) (q := (8 : Int)) (by omega : 0 ≤ (0 : Int) ∧ (0 : Int) < 1) (by omega) rfl) (fun (g5 : l < (S 6 0 8)) => ?_) (fun (g5 : ¬ (l < (S 6 0 8))) => ?_)
    · refine es_s0 2 (pc' := 12) (ls' := [some (aR 6 (0 : Int)), some (aI l), some (aI ch), some (aI (0 : Int)), none, none]) (st' := []) (S' := S) rfl ?_
      exact m102_l ihj hn5 hl hch hV h1 h0 8 S 0 _ _ (by omega) (by omega) hT hR h14 (Kc.rf S l) (fun d a b c => (a.1 l (by omega) (by omega)).1.1)
    · refine es_s0 1 (pc' := 9) (ls' := [some (aR 6 (0 : Int)), some (aI l), some (aI ch), none, none, none]) (st' := [aI (1 : Int)]) (S' := S) rfl ?_
      refine es_iret rfl rfl rfl (Or.inr ⟨rfl, (by decide)⟩) ?_
      exfalso; have := hT.1; omega
