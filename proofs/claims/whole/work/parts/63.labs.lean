/-! THE REFERENCE: label -/
theorem p8_b {m : Nat} (h : m ≤ 5) : 1 ≤ p8 m ∧ p8 m ≤ 32768 := by
  match m, h with
  | 0, _ => decide
  | 1, _ => decide
  | 2, _ => decide
  | 3, _ => decide
  | 4, _ => decide
  | 5, _ => decide
  | m + 6, h => omega
/-- the best way so far -/
def BI (W : Sg) (nn code b : Int) (D : Int → Int) : Prop := (b = 99 ∧ ∀ d, vW W nn d → code ≤ vl d nn.toNat) ∨ ((0 ≤ b ∧ b ≤ 5) ∧ vW W nn D ∧ cW W D nn.toNat 0 = b ∧ vl D nn.toNat < code ∧ ∀ d, vW W nn d → vl d nn.toNat < code → b < cW W d nn.toNat 0 ∨ (b = cW W d nn.toNat 0 ∧ vl D nn.toNat ≤ vl d nn.toNat))
section BIS
variable {W : Sg} {nn code b : Int} {D d0 : Int → Int}
theorem BI.z (hn : 0 ≤ nn) : BI W nn 0 99 D := Or.inl ⟨rfl, fun d h => (vl_lt nn.toNat (by rw [show ((nn.toNat : Nat) : Int) = nn from by omega]; exact h.dg)).1⟩
theorem BI.sm (hn : 0 ≤ nn) (hd0 : Dg d0 nn) (hv : vl d0 nn.toNat = code) {d : Int → Int} (h : vW W nn d) (hd : vl d nn.toNat = code) : vW W nn d0 ∧ cW W d0 nn.toNat 0 = cW W d nn.toNat 0 := by
  have e : ((nn.toNat : Nat) : Int) = nn := by omega
  have q := vl_inj nn.toNat (d := d0) (e := d) (by rw [e]; exact hd0) (by rw [e]; exact h.dg) (by rw [hv, hd])
  refine ⟨h.ext (fun l a c => q l a (by omega)), cs_ext _ _ (fun i a c => q i a (by omega))⟩
theorem BI.skip (hn : 0 ≤ nn ∧ nn ≤ 5) (h : BI W nn code b D) (hd0 : Dg d0 nn) (hv : vl d0 nn.toNat = code) (hc : b ≤ cW W d0 nn.toNat 0 ∨ ¬ vW W nn d0) : BI W nn (code + 1) b D := by
  have hb : cW W d0 nn.toNat 0 ≤ (nn.toNat : Int) := (cs_b (ctL_b W) nn.toNat 0).2
  rcases h with ⟨h1, h2⟩ | ⟨h1, h2, h3, h4, h5⟩
  · refine Or.inl ⟨h1, fun d h => ?_⟩
    have a := h2 d h
    by_cases e : vl d nn.toNat = code
    · have z := BI.sm hn.1 hd0 hv h e
      rcases hc with hc | hc
      · omega
      · exact absurd z.1 hc
    · omega
  · refine Or.inr ⟨h1, h2, h3, by omega, fun d h k => ?_⟩
    by_cases e : vl d nn.toNat = code
    · have z := BI.sm hn.1 hd0 hv h e
      rcases hc with hc | hc
      · by_cases g : b = cW W d nn.toNat 0
        · exact Or.inr ⟨g, by omega⟩
        · exact Or.inl (by omega)
      · exact absurd z.1 hc
    · exact h5 d h (by omega)
theorem BI.take (hn : 0 ≤ nn ∧ nn ≤ 5) (h : BI W nn code b D) (hd0 : Dg d0 nn) (hv : vl d0 nn.toNat = code) (hV : vW W nn d0) (hc : cW W d0 nn.toNat 0 < b) {D' : Int → Int} (hD : ∀ l, 0 ≤ l → l < nn → D' l = d0 l) : BI W nn (code + 1) (cW W d0 nn.toNat 0) D' := by
  have hb := cs_b (d := d0) (ctL_b W) nn.toNat 0
  replace hb : 0 ≤ cW W d0 nn.toNat 0 ∧ cW W d0 nn.toNat 0 ≤ (nn.toNat : Int) := hb
  have e1 : vl D' nn.toNat = vl d0 nn.toNat := vl_ext _ (fun l a c => hD l a (by omega))
  have e2 : cW W D' nn.toNat 0 = cW W d0 nn.toNat 0 := cs_ext _ _ (fun l a c => hD l a (by omega))
  refine Or.inr ⟨by omega, hV.ext hD, e2, by omega, fun d hd k => ?_⟩
  by_cases e : vl d nn.toNat = code
  · have z := BI.sm hn.1 hd0 hv hd e
    exact Or.inr ⟨z.2, by omega⟩
  · rcases h with ⟨h1, h2⟩ | ⟨h1, h2, h3, h4, h5⟩
    · have := h2 d hd; omega
    · have := h5 d hd (by omega)
      exact Or.inl (by omega)
theorem BI.end0 (hn : 0 ≤ nn) (h : BI W nn code 99 D) (hc : p8 nn.toNat ≤ code) : ∀ d, ¬ vW W nn d := fun d hd => by
  rcases h with ⟨h1, h2⟩ | ⟨h1, h2, h3, h4, h5⟩
  · have a := h2 d hd
    have c := (vl_lt nn.toNat (d := d) (by rw [show ((nn.toNat : Nat) : Int) = nn from by omega]; exact hd.dg)).2
    omega
  · omega
theorem BI.end1 (hn : 0 ≤ nn) (hw : nn = labC W) (h : BI W nn code b D) (hb : ¬ b = 99) (hc : p8 nn.toNat ≤ code) : oW W D := by
  subst hw
  have e : (((labC W).toNat : Nat) : Int) = labC W := by omega
  rcases h with ⟨h1, h2⟩ | ⟨h1, h2, h3, h4, h5⟩
  · omega
  · refine ⟨by rw [e]; exact h2, fun d hd => ?_⟩
    rw [e] at hd
    have c := (vl_lt (labC W).toNat (d := d) (by rw [e]; exact hd.dg)).2
    have q := h5 d hd (by omega)
    rw [← h3] at q
    exact q
end BIS
/-- how the reference stands while it looks for spots -/
def RZ (W : Sg) (p v nn : Int) (S0 S : Sg) : Prop := RR (su W 1 p 11 v) S ∧ (∀ l, 0 ≤ l → l < nn → S 46 0 l = ow W l) ∧ Fc S0 S
theorem RZ.of {W S0 S S' : Sg} {p v nn : Int} (h : RZ W p v nn S0 S) (g : ∀ t : Nat, t ≤ 46 ∨ t = 51 → S' t = S t) : RZ W p v nn S0 S' :=
  ⟨h.1.of (fun t _ b => g t (by omega)), fun l a b => by rw [g 46 (by decide)]; exact h.2.1 l a b, fun t ht => (g t (by omega)).trans (h.2.2.1 t ht), by rw [g 20 (by decide)]; exact h.2.2.2⟩
theorem RR.spot {W S S1 : Sg} {p v : Int} {D : Int → Int} (hW : WI W) (h : RR (su W 1 p 11 v) S1) (g : ∀ t : Nat, t ≠ 42 → S t = S1 t) (hs : ∀ j, 0 ≤ j → j < labC W → S 42 0 (ow W j) = D j) : RR (spF W D (W 0 0 5)) S := by
  obtain ⟨h1, h2, h3, h4, h5, h6, h7⟩ := h
  refine ⟨?_, fun i i0 i1 => ?_, fun i i0 i1 => ?_, fun c c0 c1 => ?_, fun q q0 q1 => ?_, ⟨fun r r0 r1 => ?_, fun r q r0 r1 q0 q1 => ?_⟩, fun i i0 i1 => ?_⟩
  · unfold RRn at h1 ⊢; rw [g 20 (by decide), spF_t (by decide)]; exact h1
  · have := h2 i i0 i1
    rw [g 22 (by decide), g 23 (by decide), g 24 (by decide), g 25 (by decide), g 26 (by decide), g 29 (by decide), spF_j (by decide), spF_j (by decide), spF_j (by decide), spF_j (by decide), spF_j (by decide), spF_j (by decide)]
    exact this
  · have := h3 i i0 (by rw [spF_t (by decide)] at i1; exact i1)
    rw [g 27 (by decide), g 28 (by decide), spF_j (by decide), spF_j (by decide)]
    exact this
  · have := h4 c c0 (by rw [spF_t (by decide)] at c1; exact c1)
    rw [g 31 (by decide), g 32 (by decide), g 33 (by decide), g 34 (by decide), g 35 (by decide), spF_t (by decide)]
    exact this
  · have := h5 q q0 q1
    rw [g 36 (by decide), spF_t (by decide)]
    exact this
  · have := h6.1 r r0 (by rw [spF_t (by decide)] at r1; exact r1)
    rw [g 38 (by decide), spF_t (by decide)]
    exact this
  · have := h6.2 r q r0 r1 q0 q1
    rw [g 39 (by decide), spF_t (by decide)]
    exact this
  · obtain ⟨a, b⟩ := h7 i i0 i1
    rw [g 40 (by decide), g 41 (by decide), spF_j (by decide), spF_j (by decide), spF_j (by decide)]
    refine ⟨a, fun hl => ⟨(b hl).1, ?_⟩⟩
    have hi : i < W 0 0 5 := by
      by_cases q : i < W 0 0 5
      · exact q
      · exact absurd hl (hW.2.2.1 i (by omega) i1)
    rw [spF_11 ⟨i0, hi⟩ hl]
    have := hs (lbc W i) lbc_nn (hW.lt ⟨i0, i1⟩ hl)
    rw [ow_of ⟨i0, i1⟩ hl] at this
    exact this
theorem dropL_t {W : Sg} {p : Int} {t : Nat} (h : ¬ t = 1) : dropL W p t = W t := by
  unfold dropL
  rw [su_tt _ h, su_tt _ h]
theorem dropL_j {W : Sg} {p i j : Int} (h : ¬ (8 ≤ j ∧ j ≤ 11)) : dropL W p 1 i j = W 1 i j := dropL_o (fun _ => h)
theorem RR.drop {W S : Sg} {p v : Int} (h : RR (su W 1 p 11 v) S) : RR (dropL W p) (su S 40 0 p 0) := by
  obtain ⟨h1, h2, h3, h4, h5, h6, h7⟩ := h
  refine ⟨h1, h2, h3, h4, h5, h6, fun i i0 i1 => ?_⟩
  obtain ⟨a, b⟩ := h7 i i0 i1
  replace a : S 40 0 i = (if W 1 i 8 = 1 then W 1 i 9 else 0) := a
  show su S 40 0 p 0 40 0 i = (if dropL W p 1 i 8 = 1 then W 1 i 9 else 0) ∧ (dropL W p 1 i 8 = 1 → S 41 0 i = W 1 i 10 ∧ S 42 0 i = dropL W p 1 i 11)
  rw [suA, dropL_8, dropL_11]
  by_cases e : i = p
  · rw [if_pos e, if_pos e, if_pos e, if_neg (by decide)]
    exact ⟨rfl, fun z => absurd z (by decide)⟩
  · rw [if_neg e, if_neg e, if_neg e]
    refine ⟨a, fun z => ?_⟩
    have := b z
    rw [su_eq, if_neg e] at this
    exact this
theorem RR.drop0 {A S : Sg} {p : Int} (h : RR A S) : RR (dropL A p) (su S 40 0 p 0) := by
  refine RR.drop (v := A 1 p 11) ?_
  have e : su A 1 p 11 (A 1 p 11) = A := by
    funext t i j
    unfold su
    split
    · next q => rw [q.1, q.2.1, q.2.2]
    · rfl
  rw [e]
  exact h
theorem RR.give {A S : Sg} {p w hh : Int} (h : RR A S) : RR (su (giveL A p w hh) 1 p 11 (S 42 0 p)) (su (su S 40 0 p w) 41 0 p hh) := by
  obtain ⟨h1, h2, h3, h4, h5, h6, h7⟩ := h
  refine ⟨h1, h2, h3, h4, h5, h6, fun i i0 i1 => ?_⟩
  obtain ⟨a, b⟩ := h7 i i0 i1
  show su S 40 0 p w 40 0 i = (if giveL A p w hh 1 i 8 = 1 then giveL A p w hh 1 i 9 else 0) ∧ (giveL A p w hh 1 i 8 = 1 → su S 41 0 p hh 41 0 i = giveL A p w hh 1 i 10 ∧ S 42 0 i = su (giveL A p w hh) 1 p 11 (S 42 0 p) 1 i 11)
  rw [suA, suA, giveL_8, giveL_9, giveL_10, su_eq, giveL_11]
  by_cases e : i = p
  · subst e
    rw [if_pos rfl, if_pos rfl, if_pos rfl, if_pos rfl, if_pos rfl, if_pos rfl, if_pos rfl]
    exact ⟨rfl, fun _ => ⟨rfl, rfl⟩⟩
  · rw [if_neg e, if_neg e, if_neg e, if_neg e, if_neg e, if_neg e, if_neg e]
    exact ⟨a, b⟩
theorem n111_e {G : Gw} {S0 S1 : Sg} {k : Nat} {Q : AQ} {W : Sg} {p v nn w hh : Int} (hW : WI W) (hnn : nn = labC W) (hp : 0 ≤ p ∧ p < W 0 0 5) (hN : (∀ d, ¬ vW W nn d) → ∀ S' : Sg, RR (dropL W p) S' → Fc S0 S' → Q (.inl (some (aI 1))) S') (hY : ∀ D, oW W D → ∀ S' : Sg, RR (spF W D (W 0 0 5)) S' → Fc S0 S' → Q (.inl (some (aI 0))) S') (hZ : RZ W p v nn S0 S1) (ho : oW W (S1 48 0)) {b9 : Int} {o6 o8 o11 o12 o13 : Option AV} : ∀ (n : Nat) (S : Sg) (i : Int) (_ : 0 ≤ i) (_ : i + n = nn) (_ : ∀ t : Nat, t ≠ 42 → S t = S1 t) (_ : ∀ j, 0 ≤ j → j < i → S 42 0 (ow W j) = S1 48 0 j), Es G 111 370 [some (aR 20 (0 : Int)), some (aI p), some (aL w), none, some (aL hh), none, o6, some (aI nn), o8, some (aI b9), some (aI i), o11, o12, o13] [] S (k + 3) Q := by
  intro n
  induction n using Nat.strongRecOn with
  | _ n ih =>
    intro S i hi hn hK hs
    have h5 := hW.2.2.2
    have h05 := hW.1
    have hln := labC_n W
    refine es_rg (fun hg1 => ?_)
    refine es_s0 2 (pc' := 374) (ls' := [some (aR 20 (0 : Int)), some (aI p), some (aL w), none, some (aL hh), none, o6, some (aI nn), o8, some (aI b9), some (aI i), o11, o12, o13]) (st' := [aI nn, aI i]) (S' := S) rfl ?_
    refine es_icmp rfl 402 rfl ⟨by omega, by omega⟩ ⟨by omega, by omega⟩ (fun (g374 : nn ≤ i) => ?_) (fun (g374 : ¬ (nn ≤ i)) => ?_)
    · refine es_s0 1 (pc' := 403) (ls' := [some (aR 20 (0 : Int)), some (aI p), some (aL w), none, some (aL hh), none, o6, some (aI nn), o8, some (aI b9), some (aI i), o11, o12, o13]) (st' := [aI (0 : Int)]) (S' := S) rfl ?_
      refine es_iret rfl rfl rfl (Or.inl rfl) ?_
      have e : i = nn := by omega
      subst e
      refine hY _ ho S (hZ.1.spot hW hK (fun j j0 j1 => hs j j0 (by omega))) ⟨fun t ht => (hK t (by omega)).trans (hZ.2.2.1 t ht), ?_⟩
      rw [hK 20 (by decide)]
      exact hZ.2.2.2
    · have ol := hW.ow (l := i) hi (by omega)
      have e46 : S 46 0 i = ow W i := by rw [hK 46 (by decide)]; exact hZ.2.1 i hi (by omega)
      have e48 : S 48 0 i = S1 48 0 i := by rw [hK 48 (by decide)]
      refine es_sg 6 (p := ((0 : Int) = 0) ∧ (((0 : Int) = 0) ∧ (((0 : Int) = 0) ∧ (0 ≤ i ∧ i < 5)))) (pc' := 388) (ls' := [some (aR 20 (0 : Int)), some (aI p), some (aL w), none, some (aL hh), none, o6, some (aI nn), o8, some (aI b9), some (aI i), o11, o12, o13]) (st' := [aI (S 46 0 i), aR 42 (0 : Int)]) (S' := S) rfl ⟨rfl, rfl, ⟨rfl, (by omega)⟩⟩ ?_
      refine es_sg 5 (p := ((0 : Int) = 0) ∧ ((((0 : Int) = 0) ∧ (0 ≤ i ∧ i < 5)) ∧ ((((0 : Int) = 0) ∧ (0 ≤ (S 46 0 i) ∧ (S 46 0 i) < 60)) ∧ (r32 (S 48 0 i))))) (pc' := 396) (ls' := [some (aR 20 (0 : Int)), some (aI p), some (aL w), none, some (aL hh), none, o6, some (aI nn), o8, some (aI b9), some (aI i), o11, o12, o13]) (st' := []) (S' := su S 42 0 (S 46 0 i) (S 48 0 i)) rfl ⟨rfl, ⟨rfl, (by omega)⟩, ⟨⟨rfl, (by omega)⟩, (rgI hg1 (t := 48) (i := (0 : Int)) (q := i) (by omega : 0 ≤ (0 : Int) ∧ (0 : Int) < 1) (by omega) rfl)⟩⟩ ?_
      refine es_rg (fun hg2 => ?_)
      refine es_s0 2 (pc' := 370) (ls' := [some (aR 20 (0 : Int)), some (aI p), some (aL w), none, some (aL hh), none, o6, some (aI nn), o8, some (aI b9), some (aI (i + 1)), o11, o12, o13]) (st' := []) (S' := su S 42 0 (S 46 0 i) (S 48 0 i)) rfl ?_
      refine ih (n - 1) (by omega) _ (i + 1) (by omega) (by omega) (fun t ht => (su_tt _ ht).trans (hK t ht)) (fun j j0 j1 => ?_)
      rw [suA, e46, e48]
      by_cases e : j = i
      · subst e; rw [if_pos rfl]
      · have oj := hW.ow (l := j) j0 (by omega)
        rw [if_neg (fun z => by have h1 := oj.2.2; rw [z] at h1; have h2 := ol.2.2; omega)]
        exact hs j j0 (by omega)
theorem n111_i {G : Gw} {S0 S1 : Sg} {k : Nat} {Q : AQ} {W : Sg} {p v nn w hh : Int} (hW : WI W) (hnn : nn = labC W) (hp : 0 ≤ p ∧ p < W 0 0 5) {P code c : Int} (hc : 0 ≤ code ∧ code < 32768) {o6 : Option AV} (hk : ∀ (S' : Sg) (b' : Int) (o11 o12 o13 : Option AV), RZ W p v nn S0 S' → BI W nn (code + 1) b' (S' 48 0) → Es G 111 199 [some (aR 20 (0 : Int)), some (aI p), some (aL w), none, some (aL hh), none, o6, some (aI nn), some (aI P), some (aI b'), some (aI (code + 1)), o11, o12, o13] [] S' (k + 3) Q) {b : Int} (hZ : RZ W p v nn S0 S1) (hB : BI W nn code b (S1 48 0)) (hD : Dg (S1 47 0) nn) (hv : vl (S1 47 0) nn.toNat = code) (hV : vW W nn (S1 47 0)) (hcc : c = cW W (S1 47 0) nn.toNat 0) (hcb : c < b) {o11 : Option AV} : ∀ (n : Nat) (S : Sg) (i : Int) (_ : 0 ≤ i) (_ : i + n = nn) (_ : ∀ t : Nat, t ≠ 48 → S t = S1 t) (_ : ∀ j, 0 ≤ j → j < i → S 48 0 j = S1 47 0 j), Es G 111 318 [some (aR 20 (0 : Int)), some (aI p), some (aL w), none, some (aL hh), none, o6, some (aI nn), some (aI P), some (aI c), some (aI code), o11, some (aI c), some (aI i)] [] S (k + 3) Q := by
  intro n
  induction n using Nat.strongRecOn with
  | _ n ih =>
    intro S i hi hn hK hs
    have h5 := hW.2.2.2
    have h05 := hW.1
    have hln := labC_n W
    refine es_rg (fun hg1 => ?_)
    refine es_s0 2 (pc' := 322) (ls' := [some (aR 20 (0 : Int)), some (aI p), some (aL w), none, some (aL hh), none, o6, some (aI nn), some (aI P), some (aI c), some (aI code), o11, some (aI c), some (aI i)]) (st' := [aI nn, aI i]) (S' := S) rfl ?_
    refine es_icmp rfl 345 rfl ⟨by omega, by omega⟩ ⟨by omega, by omega⟩ (fun (g322 : nn ≤ i) => ?_) (fun (g322 : ¬ (nn ≤ i)) => ?_)
    · refine es_s0 2 (pc' := 199) (ls' := [some (aR 20 (0 : Int)), some (aI p), some (aL w), none, some (aL hh), none, o6, some (aI nn), some (aI P), some (aI c), some (aI (code + 1)), o11, some (aI c), some (aI i)]) (st' := []) (S' := S) rfl ?_
      refine hk S c _ _ _ (hZ.of (fun t ht => hK t (by omega))) ?_
      rw [hcc] at hcb ⊢
      exact hB.take ⟨by omega, by omega⟩ hD hv hV hcb (fun l a b => hs l a (by omega))
    · have e47 : S 47 0 i = S1 47 0 i := by rw [hK 47 (by decide)]
      refine es_sg 6 (p := ((0 : Int) = 0) ∧ ((0 : Int) = 0)) (pc' := 337) (ls' := [some (aR 20 (0 : Int)), some (aI p), some (aL w), none, some (aL hh), none, o6, some (aI nn), some (aI P), some (aI c), some (aI code), o11, some (aI c), some (aI i)]) (st' := [aI i, aR 47 (0 : Int), aI i, aR 48 (0 : Int)]) (S' := S) rfl ⟨rfl, rfl⟩ ?_
      refine es_sg 2 (p := (((0 : Int) = 0) ∧ (0 ≤ i ∧ i < 5)) ∧ ((((0 : Int) = 0) ∧ (0 ≤ i ∧ i < 5)) ∧ (r32 (S 47 0 i)))) (pc' := 339) (ls' := [some (aR 20 (0 : Int)), some (aI p), some (aL w), none, some (aL hh), none, o6, some (aI nn), some (aI P), some (aI c), some (aI code), o11, some (aI c), some (aI i)]) (st' := []) (S' := su S 48 0 i (S 47 0 i)) rfl ⟨⟨rfl, (by omega)⟩, ⟨⟨rfl, (by omega)⟩, (rgI hg1 (t := 47) (i := (0 : Int)) (q := i) (by omega : 0 ≤ (0 : Int) ∧ (0 : Int) < 1) (by omega) rfl)⟩⟩ ?_
      refine es_rg (fun hg2 => ?_)
      refine es_s0 2 (pc' := 318) (ls' := [some (aR 20 (0 : Int)), some (aI p), some (aL w), none, some (aL hh), none, o6, some (aI nn), some (aI P), some (aI c), some (aI code), o11, some (aI c), some (aI (i + 1))]) (st' := []) (S' := su S 48 0 i (S 47 0 i)) rfl ?_
      refine ih (n - 1) (by omega) _ (i + 1) (by omega) (by omega) (fun t ht => (su_tt _ ht).trans (hK t ht)) (fun j j0 j1 => ?_)
      rw [suA, e47]
      by_cases e : j = i
      · subst e; rw [if_pos rfl]
      · rw [if_neg e]; exact hs j j0 (by omega)
theorem n111_h {G : Gw} {S0 S : Sg} {k : Nat} {Q : AQ} {W : Sg} {p v nn w hh : Int} (hW : WI W) (hnn : nn = labC W) (hp : 0 ≤ p ∧ p < W 0 0 5) {P code c : Int} (hc : 0 ≤ code ∧ code < 32768) {o6 : Option AV} (hk : ∀ (S' : Sg) (b' : Int) (o11 o12 o13 : Option AV), RZ W p v nn S0 S' → BI W nn (code + 1) b' (S' 48 0) → Es G 111 199 [some (aR 20 (0 : Int)), some (aI p), some (aL w), none, some (aL hh), none, o6, some (aI nn), some (aI P), some (aI b'), some (aI (code + 1)), o11, o12, o13] [] S' (k + 3) Q) {b : Int} (hb : 0 ≤ b ∧ b ≤ 99) (hZ : RZ W p v nn S0 S) (hB : BI W nn code b (S 48 0)) (hD : Dg (S 47 0) nn) (hv : vl (S 47 0) nn.toNat = code) (hcc : c = cW W (S 47 0) nn.toNat 0) {o11 o13 : Option AV} : Es G 111 292 [some (aR 20 (0 : Int)), some (aI p), some (aL w), none, some (aL hh), none, o6, some (aI nn), some (aI P), some (aI b), some (aI code), o11, some (aI c), o13] [] S (k + 3) Q := by
  have h5 := hW.2.2.2
  have h05 := hW.1
  have hln := labC_n W
  have hcb : 0 ≤ cW W (S 47 0) nn.toNat 0 ∧ cW W (S 47 0) nn.toNat 0 ≤ (nn.toNat : Int) := cs_b (ctL_b W) nn.toNat 0
  refine es_rg (fun hg1 => ?_)
  refine es_s0 2 (pc' := 296) (ls' := [some (aR 20 (0 : Int)), some (aI p), some (aL w), none, some (aL hh), none, o6, some (aI nn), some (aI P), some (aI b), some (aI code), o11, some (aI c), o13]) (st' := [aI b, aI c]) (S' := S) rfl ?_
  refine es_icmp rfl 345 rfl ⟨by omega, by omega⟩ ⟨by omega, by omega⟩ (fun (g296 : b ≤ c) => ?_) (fun (g296 : ¬ (b ≤ c)) => ?_)
  · refine es_s0 2 (pc' := 199) (ls' := [some (aR 20 (0 : Int)), some (aI p), some (aL w), none, some (aL hh), none, o6, some (aI nn), some (aI P), some (aI b), some (aI (code + 1)), o11, some (aI c), o13]) (st' := []) (S' := S) rfl ?_
    refine hk S b _ _ _ hZ (hB.skip ⟨by omega, by omega⟩ hD hv (Or.inl (by omega)))
  · refine es_s0 2 (pc' := 302) (ls' := [some (aR 20 (0 : Int)), some (aI p), some (aL w), none, some (aL hh), none, o6, some (aI nn), some (aI P), some (aI b), some (aI code), o11, some (aI c), o13]) (st' := [aI nn, aR 20 (0 : Int)]) (S' := S) rfl ?_
    refine es_callV rfl rfl 20 (0 : Int) [aI nn] [] rfl rfl rfl rfl (Nat.le_of_ble_eq_true rfl) (Nat.le_of_ble_eq_true rfl) (Nat.le_of_ble_eq_true rfl) ?_
    refine n110 (d := S 47 0) hW hnn hZ.1 hZ.2.1 (fun l a b => rfl) hD (fun S1 j1 j2 => ?_) (fun S1 j1 j2 => ?_)
    · show Es G 111 305 [some (aR 20 (0 : Int)), some (aI p), some (aL w), none, some (aL hh), none, o6, some (aI nn), some (aI P), some (aI b), some (aI code), o11, some (aI c), o13] [aI (1 : Int)] S1 _ _
      refine es_rg (fun hg2 => ?_)
      refine es_if rfl 311 rfl ⟨by decide, by decide⟩ (fun (g305 : ¬ (1 : Int) = (0 : Int)) => ?_) (fun (g305 : ¬ (¬ (1 : Int) = (0 : Int))) => absurd g305 (by decide))
      refine es_s0 4 (pc' := 318) (ls' := [some (aR 20 (0 : Int)), some (aI p), some (aL w), none, some (aL hh), none, o6, some (aI nn), some (aI P), some (aI c), some (aI code), o11, some (aI c), some (aI (0 : Int))]) (st' := []) (S' := S1) rfl ?_
      have f47 : S1 47 = S 47 := j1 47 (by decide) (by decide)
      have f48 : S1 48 = S 48 := j1 48 (by decide) (by decide)
      exact n111_i hW hnn hp hc hk (b := b) (hZ.of (fun t ht => j1 t (by omega) (by omega))) (by rw [f48]; exact hB) (by rw [f47]; exact hD) (by rw [f47]; exact hv) (by rw [f47]; exact j2) (by rw [f47]; exact hcc) (by omega) nn.toNat S1 0 (by omega) (by omega) (fun _ _ => rfl) (fun j j0 j1 => absurd j1 (by omega))
    · show Es G 111 305 [some (aR 20 (0 : Int)), some (aI p), some (aL w), none, some (aL hh), none, o6, some (aI nn), some (aI P), some (aI b), some (aI code), o11, some (aI c), o13] [aI (0 : Int)] S1 _ _
      refine es_rg (fun hg3 => ?_)
      refine es_if rfl 311 rfl ⟨by decide, by decide⟩ (fun (g305 : ¬ (0 : Int) = (0 : Int)) => absurd g305 (by decide)) (fun (g305 : ¬ (¬ (0 : Int) = (0 : Int))) => ?_)
      refine es_s0 3 (pc' := 199) (ls' := [some (aR 20 (0 : Int)), some (aI p), some (aL w), none, some (aL hh), none, o6, some (aI nn), some (aI P), some (aI b), some (aI (code + 1)), o11, some (aI c), o13]) (st' := []) (S' := S1) rfl ?_
      refine hk S1 b _ _ _ (hZ.of (fun t ht => j1 t (by omega) (by omega))) ?_
      rw [j1 48 (by decide) (by decide)]
      exact hB.skip ⟨by omega, by omega⟩ hD hv (Or.inr j2)
theorem n111_g {G : Gw} {S0 S1 : Sg} {k : Nat} {Q : AQ} {W : Sg} {p v nn w hh : Int} (hW : WI W) (hnn : nn = labC W) (hp : 0 ≤ p ∧ p < W 0 0 5) (hp11 : W 1 p 11 = -1) (hpos : ∀ q, 0 ≤ q → q < 60 → W 1 q 8 = 1 → ¬ q = p → 0 ≤ W 1 q 11) {P b code : Int} {o6 : Option AV} (hZ : RZ W p v nn S0 S1) (hk : ∀ (S' : Sg) (c : Int) (o11 o13 : Option AV), (∀ t : Nat, t ≠ 47 → S' t = S1 t) → Dg (S' 47 0) nn → vl (S' 47 0) nn.toNat = code → c = cW W (S' 47 0) nn.toNat 0 → Es G 111 292 [some (aR 20 (0 : Int)), some (aI p), some (aL w), none, some (aL hh), none, o6, some (aI nn), some (aI P), some (aI b), some (aI code), o11, some (aI c), o13] [] S' (k + 3) Q) : ∀ (n : Nat) (S : Sg) (r c j : Int) (_ : -1 ≤ j ∧ j < nn) (_ : j + 1 = (n : Int)) (_ : 0 ≤ r ∧ r < p8 n) (_ : ∀ t : Nat, t ≠ 47 → S t = S1 t) (_ : ∀ l, j < l → l < nn → 0 ≤ S 47 0 l ∧ S 47 0 l < 8) (_ : ∀ d : Int → Int, (∀ l, j < l → l < nn → d l = S 47 0 l) → vl d n = r → vl d nn.toNat = code) (_ : c = cW W (S 47 0) (nn - 1 - j).toNat (j + 1)), Es G 111 219 [some (aR 20 (0 : Int)), some (aI p), some (aL w), none, some (aL hh), none, o6, some (aI nn), some (aI P), some (aI b), some (aI code), some (aI r), some (aI c), some (aI j)] [] S (k + 3) Q := by
  intro n
  induction n with
  | zero =>
    intro S r c j hj hn hr hK hd hv hcc
    have h5 := hW.2.2.2
    have h05 := hW.1
    have hln := labC_n W
    have hcb : 0 ≤ cW W (S 47 0) (nn - 1 - j).toNat (j + 1) ∧ cW W (S 47 0) (nn - 1 - j).toNat (j + 1) ≤ ((nn - 1 - j).toNat : Int) := cs_b (ctL_b W) _ _
    refine es_rg (fun hg1 => ?_)
    refine es_s0 1 (pc' := 221) (ls' := [some (aR 20 (0 : Int)), some (aI p), some (aL w), none, some (aL hh), none, o6, some (aI nn), some (aI P), some (aI b), some (aI code), some (aI r), some (aI c), some (aI j)]) (st' := [aI j]) (S' := S) rfl ?_
    refine es_if rfl 292 rfl ⟨by omega, by omega⟩ (fun (g221 : j < (0 : Int)) => ?_) (fun (g221 : ¬ (j < (0 : Int))) => ?_)
    · refine hk S c _ _ hK (fun l a z => hd l (by omega) z) (hv _ (fun l a z => rfl) ?_) ?_
      · have e8 : p8 0 = 1 := rfl
        show (0 : Int) = r
        omega
      · rw [hcc, show (nn - 1 - j).toNat = nn.toNat from by omega, show j + 1 = 0 from by omega]
    · exfalso; omega
  | succ n ih =>
    intro S r c j hj hn hr hK hd hv hcc
    have h5 := hW.2.2.2
    have h05 := hW.1
    have hln := labC_n W
    have hcb : 0 ≤ cW W (S 47 0) (nn - 1 - j).toNat (j + 1) ∧ cW W (S 47 0) (nn - 1 - j).toNat (j + 1) ≤ ((nn - 1 - j).toNat : Int) := cs_b (ctL_b W) _ _
    have e8 : p8 (n + 1) = 8 * p8 n := rfl
    have h8 := p8_b (m := n + 1) (by omega)
    have e46 : S 46 0 j = ow W j := by rw [hK 46 (by decide)]; exact hZ.2.1 j (by omega) (by omega)
    have oj := hW.ow (l := j) (by omega) (by omega)
    have r47 : su S 47 0 j (r % 8) 47 0 j = r % 8 := by rw [suA, if_pos rfl]
    have hlb := hZ.1.lb (q := ow W j) (by omega) oj.2.1
    have hps := hpos (ow W j) oj.1.1 (by omega) oj.2.1
    have e42 : S 42 0 (ow W j) = S1 42 0 (ow W j) := by rw [hK 42 (by decide)]
    have oj1 := oj.1
    rw [← e46] at hlb hps e42 oj1
    have hlb2 := hlb.2.2
    refine es_rg (fun hg1 => ?_)
    refine es_s0 1 (pc' := 221) (ls' := [some (aR 20 (0 : Int)), some (aI p), some (aL w), none, some (aL hh), none, o6, some (aI nn), some (aI P), some (aI b), some (aI code), some (aI r), some (aI c), some (aI j)]) (st' := [aI j]) (S' := S) rfl ?_
    refine es_if rfl 292 rfl ⟨by omega, by omega⟩ (fun (g221 : j < (0 : Int)) => ?_) (fun (g221 : ¬ (j < (0 : Int))) => ?_)
    · exfalso; omega
    · refine es_sg 6 (p := ((0 : Int) = 0) ∧ ((0 ≤ r ∧ r < 2147483648) ∧ (0 < (8 : Int) ∧ (8 : Int) < 2147483648))) (pc' := 235) (ls' := [some (aR 20 (0 : Int)), some (aI p), some (aL w), none, some (aL hh), none, o6, some (aI nn), some (aI P), some (aI b), some (aI code), some (aI r), some (aI c), some (aI j)]) (st' := [aI (r % 8), aI j, aR 47 (0 : Int)]) (S' := S) rfl ⟨rfl, (by omega)⟩ ?_
      refine es_sg 1 (p := (((0 : Int) = 0) ∧ (0 ≤ j ∧ j < 5)) ∧ (r32 (r % 8))) (pc' := 236) (ls' := [some (aR 20 (0 : Int)), some (aI p), some (aL w), none, some (aL hh), none, o6, some (aI nn), some (aI P), some (aI b), some (aI code), some (aI r), some (aI c), some (aI j)]) (st' := []) (S' := su S 47 0 j (r % 8)) rfl ⟨⟨rfl, (by omega)⟩, ⟨by omega, by omega⟩⟩ ?_
      refine es_rg (fun hg2 => ?_)
      refine es_sg 6 (p := (0 ≤ r ∧ r < 2147483648) ∧ (0 < (8 : Int) ∧ (8 : Int) < 2147483648)) (pc' := 246) (ls' := [some (aR 20 (0 : Int)), some (aI p), some (aL w), none, some (aL hh), none, o6, some (aI nn), some (aI P), some (aI b), some (aI code), some (aI (r / 8)), some (aI c), some (aI j)]) (st' := [aR 20 (0 : Int), aI c]) (S' := su S 47 0 j (r % 8)) rfl (by omega) ?_
      refine es_sg 4 (p := ((0 : Int) = 0) ∧ (((0 : Int) = 0) ∧ (0 ≤ j ∧ j < 5))) (pc' := 253) (ls' := [some (aR 20 (0 : Int)), some (aI p), some (aL w), none, some (aL hh), none, o6, some (aI nn), some (aI P), some (aI b), some (aI code), some (aI (r / 8)), some (aI c), some (aI j)]) (st' := [aI p, aI (S 46 0 j), aI c]) (S' := su S 47 0 j (r % 8)) rfl ⟨rfl, ⟨rfl, (by omega)⟩⟩ ?_
      refine es_icmp rfl 282 rfl (rgI hg1 (t := 46) (i := (0 : Int)) (q := j) (by omega : 0 ≤ (0 : Int) ∧ (0 : Int) < 1) (by omega) rfl) ⟨by omega, by omega⟩ (fun (g253 : (S 46 0 j) = p) => ?_) (fun (g253 : ¬ ((S 46 0 j) = p)) => ?_)
      · refine es_s0 5 (pc' := 219) (ls' := [some (aR 20 (0 : Int)), some (aI p), some (aL w), none, some (aL hh), none, o6, some (aI nn), some (aI P), some (aI b), some (aI code), some (aI (r / 8)), some (aI (c + 0)), some (aI (j + (-1)))]) (st' := []) (S' := su S 47 0 j (r % 8)) rfl ?_
        have hct : ctL W j (r % 8) = 0 := by
          unfold ctL
          rw [← e46]
          first
            | (rw [if_pos (by omega)])
            | (rw [if_neg (by omega)])
            | (rw [show S 46 0 j = p from by omega, if_pos (Or.inl hp11)])
        have e47 : ∀ l, j < l → su S 47 0 j (r % 8) 47 0 l = S 47 0 l := fun l a => by rw [suA, if_neg (by omega)]
        refine ih _ (r / 8) _ (j + -1) (by omega) (by omega) (by omega) (fun t ht => (su_tt _ ht).trans (hK t ht)) (fun l a z => ?_) (fun d a z => ?_) ?_
        · by_cases e : l = j
          · subst e; rw [r47]; omega
          · rw [e47 l (by omega)]; exact hd l (by omega) z
        · refine hv d (fun l q z => by rw [a l (by omega) z, e47 l q]) ?_
          show 8 * vl d n + d (n : Int) = r
          rw [show (n : Int) = j from by omega, a j (by omega) (by omega), r47, z]
          omega
        · rw [show (nn - 1 - (j + -1)).toNat = (nn - 1 - j).toNat + 1 from by omega, show j + -1 + 1 = j from by omega]
          show _ = ctL W j (su S 47 0 j (r % 8) 47 0 j) + cW W (su S 47 0 j (r % 8) 47 0) (nn - 1 - j).toNat (j + 1)
          have e9 : cW W (su S 47 0 j (r % 8) 47 0) (nn - 1 - j).toNat (j + 1) = cW W (S 47 0) (nn - 1 - j).toNat (j + 1) := cs_ext _ _ (fun i a z => e47 i (by omega))
          rw [r47, hct, e9, ← hcc]
          omega
      · refine es_sg 6 (p := ((0 : Int) = 0) ∧ (((0 : Int) = 0) ∧ (((0 : Int) = 0) ∧ (0 ≤ j ∧ j < 5)))) (pc' := 267) (ls' := [some (aR 20 (0 : Int)), some (aI p), some (aL w), none, some (aL hh), none, o6, some (aI nn), some (aI P), some (aI b), some (aI code), some (aI (r / 8)), some (aI c), some (aI j)]) (st' := [aI (S 46 0 j), aR 42 (0 : Int), aI c]) (S' := su S 47 0 j (r % 8)) rfl ⟨rfl, rfl, ⟨rfl, (by omega)⟩⟩ ?_
        refine es_sg 5 (p := (((0 : Int) = 0) ∧ (0 ≤ (S 46 0 j) ∧ (S 46 0 j) < 60)) ∧ (((0 : Int) = 0) ∧ (((0 : Int) = 0) ∧ (0 ≤ j ∧ j < 5)))) (pc' := 275) (ls' := [some (aR 20 (0 : Int)), some (aI p), some (aL w), none, some (aL hh), none, o6, some (aI nn), some (aI P), some (aI b), some (aI code), some (aI (r / 8)), some (aI c), some (aI j)]) (st' := [aI ((su S 47 0 j (r % 8)) 47 0 j), aI (S 42 0 (S 46 0 j)), aI c]) (S' := su S 47 0 j (r % 8)) rfl ⟨⟨rfl, (by omega)⟩, rfl, ⟨rfl, (by omega)⟩⟩ ?_
        refine es_icmp rfl 282 rfl (rgI hg1 (t := 42) (i := (0 : Int)) (q := (S 46 0 j)) (by omega : 0 ≤ (0 : Int) ∧ (0 : Int) < 1) (by omega) rfl) (rgI hg2 (t := 47) (i := (0 : Int)) (q := j) (by omega : 0 ≤ (0 : Int) ∧ (0 : Int) < 1) (by omega) rfl) (fun (g275 : (S 42 0 (S 46 0 j)) = ((su S 47 0 j (r % 8)) 47 0 j)) => ?_) (fun (g275 : ¬ ((S 42 0 (S 46 0 j)) = ((su S 47 0 j (r % 8)) 47 0 j))) => ?_)
        · refine es_s0 5 (pc' := 219) (ls' := [some (aR 20 (0 : Int)), some (aI p), some (aL w), none, some (aL hh), none, o6, some (aI nn), some (aI P), some (aI b), some (aI code), some (aI (r / 8)), some (aI (c + 0)), some (aI (j + (-1)))]) (st' := []) (S' := su S 47 0 j (r % 8)) rfl ?_
          have hct : ctL W j (r % 8) = 0 := by
            unfold ctL
            rw [← e46]
            first
              | (rw [if_pos (by omega)])
              | (rw [if_neg (by omega)])
              | (rw [show S 46 0 j = p from by omega, if_pos (Or.inl hp11)])
          have e47 : ∀ l, j < l → su S 47 0 j (r % 8) 47 0 l = S 47 0 l := fun l a => by rw [suA, if_neg (by omega)]
          refine ih _ (r / 8) _ (j + -1) (by omega) (by omega) (by omega) (fun t ht => (su_tt _ ht).trans (hK t ht)) (fun l a z => ?_) (fun d a z => ?_) ?_
          · by_cases e : l = j
            · subst e; rw [r47]; omega
            · rw [e47 l (by omega)]; exact hd l (by omega) z
          · refine hv d (fun l q z => by rw [a l (by omega) z, e47 l q]) ?_
            show 8 * vl d n + d (n : Int) = r
            rw [show (n : Int) = j from by omega, a j (by omega) (by omega), r47, z]
            omega
          · rw [show (nn - 1 - (j + -1)).toNat = (nn - 1 - j).toNat + 1 from by omega, show j + -1 + 1 = j from by omega]
            show _ = ctL W j (su S 47 0 j (r % 8) 47 0 j) + cW W (su S 47 0 j (r % 8) 47 0) (nn - 1 - j).toNat (j + 1)
            have e9 : cW W (su S 47 0 j (r % 8) 47 0) (nn - 1 - j).toNat (j + 1) = cW W (S 47 0) (nn - 1 - j).toNat (j + 1) := cs_ext _ _ (fun i a z => e47 i (by omega))
            rw [r47, hct, e9, ← hcc]
            omega
        · refine es_s0 6 (pc' := 219) (ls' := [some (aR 20 (0 : Int)), some (aI p), some (aL w), none, some (aL hh), none, o6, some (aI nn), some (aI P), some (aI b), some (aI code), some (aI (r / 8)), some (aI (c + 1)), some (aI (j + (-1)))]) (st' := []) (S' := su S 47 0 j (r % 8)) rfl ?_
          have hct : ctL W j (r % 8) = 1 := by
            unfold ctL
            rw [← e46]
            first
              | (rw [if_pos (by omega)])
              | (rw [if_neg (by omega)])
              | (rw [show S 46 0 j = p from by omega, if_pos (Or.inl hp11)])
          have e47 : ∀ l, j < l → su S 47 0 j (r % 8) 47 0 l = S 47 0 l := fun l a => by rw [suA, if_neg (by omega)]
          refine ih _ (r / 8) _ (j + -1) (by omega) (by omega) (by omega) (fun t ht => (su_tt _ ht).trans (hK t ht)) (fun l a z => ?_) (fun d a z => ?_) ?_
          · by_cases e : l = j
            · subst e; rw [r47]; omega
            · rw [e47 l (by omega)]; exact hd l (by omega) z
          · refine hv d (fun l q z => by rw [a l (by omega) z, e47 l q]) ?_
            show 8 * vl d n + d (n : Int) = r
            rw [show (n : Int) = j from by omega, a j (by omega) (by omega), r47, z]
            omega
          · rw [show (nn - 1 - (j + -1)).toNat = (nn - 1 - j).toNat + 1 from by omega, show j + -1 + 1 = j from by omega]
            show _ = ctL W j (su S 47 0 j (r % 8) 47 0 j) + cW W (su S 47 0 j (r % 8) 47 0) (nn - 1 - j).toNat (j + 1)
            have e9 : cW W (su S 47 0 j (r % 8) 47 0) (nn - 1 - j).toNat (j + 1) = cW W (S 47 0) (nn - 1 - j).toNat (j + 1) := cs_ext _ _ (fun i a z => e47 i (by omega))
            rw [r47, hct, e9, ← hcc]
            omega
theorem n111_d {G : Gw} {S0 : Sg} {k : Nat} {Q : AQ} {W : Sg} {p v nn w hh : Int} (hW : WI W) (hnn : nn = labC W) (hp : 0 ≤ p ∧ p < W 0 0 5) (hN : (∀ d, ¬ vW W nn d) → ∀ S' : Sg, RR (dropL W p) S' → Fc S0 S' → Q (.inl (some (aI 1))) S') (hY : ∀ D, oW W D → ∀ S' : Sg, RR (spF W D (W 0 0 5)) S' → Fc S0 S' → Q (.inl (some (aI 0))) S') (hp11 : W 1 p 11 = -1) (hpos : ∀ q, 0 ≤ q → q < 60 → W 1 q 8 = 1 → ¬ q = p → 0 ≤ W 1 q 11) {P : Int} {o6 : Option AV} (hP : P = p8 nn.toNat) : ∀ (n : Nat) (S : Sg) (b code : Int) (o11 o12 o13 : Option AV) (_ : 0 ≤ code) (_ : code + n = P) (_ : RZ W p v nn S0 S) (_ : BI W nn code b (S 48 0)), Es G 111 199 [some (aR 20 (0 : Int)), some (aI p), some (aL w), none, some (aL hh), none, o6, some (aI nn), some (aI P), some (aI b), some (aI code), o11, o12, o13] [] S (k + 3) Q := by
  intro n
  induction n using Nat.strongRecOn with
  | _ n ih =>
    intro S b code o11 o12 o13 hcd hn hZ hB
    have h5 := hW.2.2.2
    have h05 := hW.1
    have hln := labC_n W
    have h8 := p8_b (m := nn.toNat) (by omega)
    have hb9 : 0 ≤ b ∧ b ≤ 99 := by
      rcases hB with hB | hB
      · omega
      · omega
    refine es_rg (fun hg1 => ?_)
    refine es_s0 2 (pc' := 203) (ls' := [some (aR 20 (0 : Int)), some (aI p), some (aL w), none, some (aL hh), none, o6, some (aI nn), some (aI P), some (aI b), some (aI code), o11, o12, o13]) (st' := [aI P, aI code]) (S' := S) rfl ?_
    refine es_icmp rfl 351 rfl ⟨by omega, by omega⟩ ⟨by omega, by omega⟩ (fun (g203 : P ≤ code) => ?_) (fun (g203 : ¬ (P ≤ code)) => ?_)
    · refine es_s0 2 (pc' := 355) (ls' := [some (aR 20 (0 : Int)), some (aI p), some (aL w), none, some (aL hh), none, o6, some (aI nn), some (aI P), some (aI b), some (aI code), o11, o12, o13]) (st' := [aI (99 : Int), aI b]) (S' := S) rfl ?_
      refine es_icmp rfl 367 rfl ⟨by omega, by omega⟩ ⟨by decide, by decide⟩ (fun (g355 : ¬ b = (99 : Int)) => ?_) (fun (g355 : ¬ (¬ b = (99 : Int))) => ?_)
      · refine es_s0 2 (pc' := 370) (ls' := [some (aR 20 (0 : Int)), some (aI p), some (aL w), none, some (aL hh), none, o6, some (aI nn), some (aI P), some (aI b), some (aI (0 : Int)), o11, o12, o13]) (st' := []) (S' := S) rfl ?_
        exact n111_e hW hnn hp hN hY hZ (hB.end1 (by omega) hnn (by omega) (by omega)) nn.toNat S 0 (by omega) (by omega) (fun _ _ => rfl) (fun j j0 j1 => absurd j1 (by omega))
      · refine es_sg 5 (p := ((0 : Int) = 0) ∧ ((((0 : Int) = 0) ∧ (0 ≤ p ∧ p < 60)) ∧ (r64 (0 : Int)))) (pc' := 365) (ls' := [some (aR 20 (0 : Int)), some (aI p), some (aL w), none, some (aL hh), none, o6, some (aI nn), some (aI P), some (aI b), some (aI code), o11, o12, o13]) (st' := []) (S' := su S 40 0 p 0) rfl ⟨rfl, ⟨⟨rfl, (by omega)⟩, ⟨by decide, by decide⟩⟩⟩ ?_
        refine es_rg (fun hg2 => ?_)
        refine es_s0 1 (pc' := 366) (ls' := [some (aR 20 (0 : Int)), some (aI p), some (aL w), none, some (aL hh), none, o6, some (aI nn), some (aI P), some (aI b), some (aI code), o11, o12, o13]) (st' := [aI (1 : Int)]) (S' := su S 40 0 p 0) rfl ?_
        refine es_iret rfl rfl rfl (Or.inl rfl) ?_
        rw [show b = 99 from by omega] at hB
        exact hN (hB.end0 (by omega) (by omega)) _ hZ.1.drop (hZ.2.2.put (by decide))
    · refine es_s0 6 (pc' := 216) (ls' := [some (aR 20 (0 : Int)), some (aI p), some (aL w), none, some (aL hh), none, o6, some (aI nn), some (aI P), some (aI b), some (aI code), some (aI code), some (aI (0 : Int)), o13]) (st' := [aI (1 : Int), aI nn]) (S' := S) rfl ?_
      refine es_s0 2 (pc' := 219) (ls' := [some (aR 20 (0 : Int)), some (aI p), some (aL w), none, some (aL hh), none, o6, some (aI nn), some (aI P), some (aI b), some (aI code), some (aI code), some (aI (0 : Int)), some (aI (nn - 1))]) (st' := []) (S' := S) rfl ?_
      refine n111_g hW hnn hp hp11 hpos (S0 := S0) hZ (fun S' c o11 o13 j1 j2 j3 j4 => ?_) nn.toNat S code 0 (nn - 1) (by omega) (by omega) (by omega) (fun _ _ => rfl) (fun l a z => absurd z (by omega)) (fun d a z => z) ?_
      · exact n111_h hW hnn hp (c := c) (by omega) (fun S2 b2 u11 u12 u13 q1 q2 => ih (n - 1) (by omega) S2 b2 (code + 1) u11 u12 u13 (by omega) (by omega) q1 q2) (b := b) (by omega) (hZ.of (fun t ht => j1 t (by omega))) (by rw [j1 48 (by decide)]; exact hB) j2 j3 j4
      · rw [show (nn - 1 - (nn - 1)).toNat = 0 from by omega]
        rfl
theorem n111_c {G : Gw} {S : Sg} {k : Nat} {Q : AQ} {p w hh nn : Int} {o6 : Option AV} (hnn : 0 ≤ nn ∧ nn ≤ 5) (h : Es G 111 199 [some (aR 20 (0 : Int)), some (aI p), some (aL w), none, some (aL hh), none, o6, some (aI nn), some (aI (p8 nn.toNat)), some (aI (99 : Int)), some (aI (0 : Int)), none, none, none] [] S (k + 3) Q) : ∀ (n : Nat) (i : Int) (_ : 0 ≤ i) (_ : i + n = nn), Es G 111 172 [some (aR 20 (0 : Int)), some (aI p), some (aL w), none, some (aL hh), none, o6, some (aI nn), some (aI (p8 i.toNat)), some (aI i), none, none, none, none] [] S (k + 3) Q := by
  intro n
  induction n using Nat.strongRecOn with
  | _ n ih =>
    intro i hi hn
    have h8 := p8_b (m := i.toNat) (by omega)
    have e8 : p8 (i.toNat + 1) = 8 * p8 i.toNat := rfl
    refine es_rg (fun hg1 => ?_)
    refine es_s0 2 (pc' := 176) (ls' := [some (aR 20 (0 : Int)), some (aI p), some (aL w), none, some (aL hh), none, o6, some (aI nn), some (aI (p8 i.toNat)), some (aI i), none, none, none, none]) (st' := [aI nn, aI i]) (S' := S) rfl ?_
    refine es_icmp rfl 192 rfl ⟨by omega, by omega⟩ ⟨by omega, by omega⟩ (fun (g176 : nn ≤ i) => ?_) (fun (g176 : ¬ (nn ≤ i)) => ?_)
    · refine es_s0 4 (pc' := 199) (ls' := [some (aR 20 (0 : Int)), some (aI p), some (aL w), none, some (aL hh), none, o6, some (aI nn), some (aI (p8 i.toNat)), some (aI (99 : Int)), some (aI (0 : Int)), none, none, none]) (st' := []) (S' := S) rfl ?_
      rw [show i = nn from by omega]
      exact h
    · refine es_s0 6 (pc' := 172) (ls' := [some (aR 20 (0 : Int)), some (aI p), some (aL w), none, some (aL hh), none, o6, some (aI nn), some (aI (8 * (p8 i.toNat))), some (aI (i + 1)), none, none, none, none]) (st' := []) (S' := S) rfl ?_
      rw [← e8, show i.toNat + 1 = (i + 1).toNat from by omega]
      exact ih (n - 1) (by omega) (i + 1) (by omega) (by omega)
theorem n111_b {G : Gw} {S0 : Sg} {k : Nat} {Q : AQ} {W : Sg} {p v nn w hh : Int} (hW : WI W) (hnn : nn = labC W) (hp : 0 ≤ p ∧ p < W 0 0 5) (hN : (∀ d, ¬ vW W nn d) → ∀ S' : Sg, RR (dropL W p) S' → Fc S0 S' → Q (.inl (some (aI 1))) S') (hY : ∀ D, oW W D → ∀ S' : Sg, RR (spF W D (W 0 0 5)) S' → Fc S0 S' → Q (.inl (some (aI 0))) S') (hp11 : W 1 p 11 = -1) (hpos : ∀ q, 0 ≤ q → q < 60 → W 1 q 8 = 1 → ¬ q = p → 0 ≤ W 1 q 11) (hsz : ∀ q, 0 ≤ q → q < 60 → W 1 q 8 = 1 → 1 ≤ W 1 q 9) {c6 : Int} : ∀ (n : Nat) (S : Sg) (i : Int) (_ : 0 ≤ i) (_ : i + n = W 0 0 5) (_ : RR (su W 1 p 11 v) S) (_ : Fc S0 S) (_ : ∀ l, 0 ≤ l → l < lbc W i → S 46 0 l = ow W l), Es G 111 124 [some (aR 20 (0 : Int)), some (aI p), some (aL w), none, some (aL hh), none, some (aI c6), some (aI (lbc W i)), some (aI i), none, none, none, none, none] [] S (k + 3) Q := by
  intro n
  induction n using Nat.strongRecOn with
  | _ n ih =>
    intro S i hi hn hR hF hO
    have h5 := hW.2.2.2
    have h05 := hW.1
    have hln := labC_n W
    have e1 : S 20 0 1 = W 0 0 5 := hR.1.1
    have hnl := lbc_nn (A := W) (p := i)
    have hlm : lbc W i ≤ labC W := by rw [← hW.n]; exact lbc_mono hi (by omega)
    refine es_rg (fun hg1 => ?_)
    refine es_sg 3 (p := (0 : Int) = 0) (pc' := 130) (ls' := [some (aR 20 (0 : Int)), some (aI p), some (aL w), none, some (aL hh), none, some (aI c6), some (aI (lbc W i)), some (aI i), none, none, none, none, none]) (st' := [aI (S 20 0 1), aI i]) (S' := S) rfl rfl ?_
    refine es_icmp rfl 166 rfl ⟨by omega, by omega⟩ (rgI hg1 (t := 20) (i := (0 : Int)) (q := (1 : Int)) (by omega : 0 ≤ (0 : Int) ∧ (0 : Int) < 1) (by omega) rfl) (fun (g130 : (S 20 0 1) ≤ i) => ?_) (fun (g130 : ¬ ((S 20 0 1) ≤ i)) => ?_)
    · refine es_s0 4 (pc' := 172) (ls' := [some (aR 20 (0 : Int)), some (aI p), some (aL w), none, some (aL hh), none, some (aI c6), some (aI (lbc W i)), some (aI (1 : Int)), some (aI (0 : Int)), none, none, none, none]) (st' := []) (S' := S) rfl ?_
      have ei : i = W 0 0 5 := by omega
      subst ei
      rw [hW.n] at hO ⊢
      rw [← hnn] at hO ⊢
      exact n111_c (by omega) (n111_d hW hnn hp hN hY hp11 hpos rfl (p8 nn.toNat).toNat S 99 0 none none none (by omega) (by have := p8_b (m := nn.toNat) (by omega); omega) ⟨hR, hO, hF⟩ (BI.z (by omega))) nn.toNat 0 (by omega) (by omega)
    · refine es_sg 5 (p := ((0 : Int) = 0) ∧ (((0 : Int) = 0) ∧ (0 ≤ i ∧ i < 60))) (pc' := 141) (ls' := [some (aR 20 (0 : Int)), some (aI p), some (aL w), none, some (aL hh), none, some (aI c6), some (aI (lbc W i)), some (aI i), none, none, none, none, none]) (st' := [aL (0 : Int), aL (S 40 0 i)]) (S' := S) rfl ⟨rfl, ⟨rfl, (by omega)⟩⟩ ?_
      refine es_lif rfl rfl 148 rfl (rgL hg1 (t := 40) (i := (0 : Int)) (q := i) (by omega : 0 ≤ (0 : Int) ∧ (0 : Int) < 1) (by omega) rfl) ⟨by decide, by decide⟩ (fun (g141 : ¬ (S 40 0 i) = (0 : Int)) => ?_) (fun (g141 : ¬ (¬ (S 40 0 i) = (0 : Int))) => ?_)
      · have hz : W 1 i 8 = 1 := by
          by_cases z : W 1 i 8 = 1
          · exact z
          · have a := hR.lb0 (q := i) (by omega) z
            omega
        have hlt := hW.lt (p := i) (by omega) hz
        refine es_sg 5 (p := ((0 : Int) = 0) ∧ ((((0 : Int) = 0) ∧ (0 ≤ (lbc W i) ∧ (lbc W i) < 5)) ∧ (r32 i))) (pc' := 157) (ls' := [some (aR 20 (0 : Int)), some (aI p), some (aL w), none, some (aL hh), none, some (aI c6), some (aI (lbc W i)), some (aI i), none, none, none, none, none]) (st' := []) (S' := su S 46 0 (lbc W i) i) rfl ⟨rfl, ⟨⟨rfl, (by omega)⟩, ⟨by omega, by omega⟩⟩⟩ ?_
        refine es_rg (fun hg2 => ?_)
        refine es_s0 3 (pc' := 124) (ls' := [some (aR 20 (0 : Int)), some (aI p), some (aL w), none, some (aL hh), none, some (aI c6), some (aI ((lbc W i) + 1)), some (aI (i + 1)), none, none, none, none, none]) (st' := []) (S' := su S 46 0 (lbc W i) i) rfl ?_
        rw [← lbc_s1 (A := W) hi hz]
        refine ih (n - 1) (by omega) _ (i + 1) (by omega) (by omega) (hR.ar (by decide)) (hF.put (by decide)) (fun l a b => ?_)
        rw [lbc_s1 hi hz] at b
        rw [suA]
        by_cases e : l = lbc W i
        · subst e; rw [if_pos rfl, ow_of (by omega) hz]
        · rw [if_neg e]; exact hO l a (by omega)
      · refine es_s0 3 (pc' := 124) (ls' := [some (aR 20 (0 : Int)), some (aI p), some (aL w), none, some (aL hh), none, some (aI c6), some (aI (lbc W i)), some (aI (i + 1)), none, none, none, none, none]) (st' := []) (S' := S) rfl ?_
        have hz : ¬ W 1 i 8 = 1 := fun z => by
          have a := (hR.lb (q := i) (by omega) z).1
          have a2 := hsz i hi (by omega) z
          omega
        rw [← lbc_s0 (A := W) hi hz]
        exact ih (n - 1) (by omega) S (i + 1) (by omega) (by omega) hR hF (by rw [lbc_s0 hi hz]; exact hO)
theorem n111_a {G : Gw} {S0 : Sg} {k : Nat} {Q : AQ} {A : Sg} {p w hh : Int} (hA : CI A) (hp : 0 ≤ p ∧ p < A 0 0 5) (hw : 1 ≤ w ∧ w ≤ 1000) (hh' : 1 ≤ hh ∧ hh ≤ 1000) (h1 : 5 ≤ labC (dropL A p) → ∀ S' : Sg, RR (dropL A p) S' → Fc S0 S' → Q (.inl (some (aI 1))) S') (h2 : labC (dropL A p) < 5 → (∀ d, ¬ vW (giveL (dropL A p) p w hh) (labC (giveL (dropL A p) p w hh)) d) → ∀ S' : Sg, RR (dropL (giveL (dropL A p) p w hh) p) S' → Fc S0 S' → Q (.inl (some (aI 1))) S') (h0 : labC (dropL A p) < 5 → ∀ D, oW (giveL (dropL A p) p w hh) D → ∀ S' : Sg, RR (spF (giveL (dropL A p) p w hh) D (A 0 0 5)) S' → Fc S0 S' → Q (.inl (some (aI 0))) S') : ∀ (n : Nat) (S : Sg) (i : Int) (_ : 0 ≤ i) (_ : i + n = A 0 0 5) (_ : RR (dropL A p) S) (_ : Fc S0 S), Es G 111 58 [some (aR 20 (0 : Int)), some (aI p), some (aL w), none, some (aL hh), none, some (aI (lbc (dropL A p) i)), some (aI i), none, none, none, none, none, none] [] S (k + 3) Q := by
  intro n
  induction n using Nat.strongRecOn with
  | _ n ih =>
    intro S i hi hn hR hF
    have h05 := hA.1.1
    have hd := hA.drop hp
    have e1 : S 20 0 1 = A 0 0 5 := hR.1.1
    have hnl := lbc_nn (A := dropL A p) (p := i)
    have hle : lbc (dropL A p) i ≤ labC (dropL A p) := by rw [← lbc_60]; exact lbc_mono hi (by omega)
    have hl5 := hd.2.2.2.2.2.2
    refine es_rg (fun hg1 => ?_)
    refine es_sg 3 (p := (0 : Int) = 0) (pc' := 64) (ls' := [some (aR 20 (0 : Int)), some (aI p), some (aL w), none, some (aL hh), none, some (aI (lbc (dropL A p) i)), some (aI i), none, none, none, none, none, none]) (st' := [aI (S 20 0 1), aI i]) (S' := S) rfl rfl ?_
    refine es_icmp rfl 95 rfl ⟨by omega, by omega⟩ (rgI hg1 (t := 20) (i := (0 : Int)) (q := (1 : Int)) (by omega : 0 ≤ (0 : Int) ∧ (0 : Int) < 1) (by omega) rfl) (fun (g64 : (S 20 0 1) ≤ i) => ?_) (fun (g64 : ¬ ((S 20 0 1) ≤ i)) => ?_)
    · refine es_s0 2 (pc' := 98) (ls' := [some (aR 20 (0 : Int)), some (aI p), some (aL w), none, some (aL hh), none, some (aI (lbc (dropL A p) i)), some (aI i), none, none, none, none, none, none]) (st' := [aI (5 : Int), aI (lbc (dropL A p) i)]) (S' := S) rfl ?_
      refine es_icmp rfl 103 rfl ⟨by omega, by omega⟩ ⟨by decide, by decide⟩ (fun (g98 : ¬ (lbc (dropL A p) i) = (5 : Int)) => ?_) (fun (g98 : ¬ (¬ (lbc (dropL A p) i) = (5 : Int))) => ?_)
      · have hlt : labC (dropL A p) < 5 := by
          rw [← hd.wi.n, show dropL A p 0 0 5 = i from by show A 0 0 5 = i; omega]
          omega
        refine es_sg 5 (p := ((0 : Int) = 0) ∧ ((((0 : Int) = 0) ∧ (0 ≤ p ∧ p < 60)) ∧ (r64 w))) (pc' := 110) (ls' := [some (aR 20 (0 : Int)), some (aI p), some (aL w), none, some (aL hh), none, some (aI (lbc (dropL A p) i)), some (aI i), none, none, none, none, none, none]) (st' := []) (S' := su S 40 0 p w) rfl ⟨rfl, ⟨⟨rfl, (by omega)⟩, ⟨by omega, by omega⟩⟩⟩ ?_
        refine es_rg (fun hg2 => ?_)
        refine es_sg 5 (p := ((0 : Int) = 0) ∧ ((((0 : Int) = 0) ∧ (0 ≤ p ∧ p < 60)) ∧ (r64 hh))) (pc' := 118) (ls' := [some (aR 20 (0 : Int)), some (aI p), some (aL w), none, some (aL hh), none, some (aI (lbc (dropL A p) i)), some (aI i), none, none, none, none, none, none]) (st' := []) (S' := su (su S 40 0 p w) 41 0 p hh) rfl ⟨rfl, ⟨⟨rfl, (by omega)⟩, ⟨by omega, by omega⟩⟩⟩ ?_
        refine es_rg (fun hg3 => ?_)
        refine es_s0 4 (pc' := 124) (ls' := [some (aR 20 (0 : Int)), some (aI p), some (aL w), none, some (aL hh), none, some (aI (lbc (dropL A p) i)), some (aI (0 : Int)), some (aI (0 : Int)), none, none, none, none, none]) (st' := []) (S' := su (su S 40 0 p w) 41 0 p hh) rfl ?_
        have hWg : WI (giveL (dropL A p) p w hh) := hd.wi.give (show 0 ≤ p ∧ p < A 0 0 5 from hp) (by rw [dropL_8, if_pos rfl]; decide) (by omega) hw hh'
        have hR3 := hR.give (p := p) (w := w) (hh := hh)
        refine n111_b hWg rfl (show 0 ≤ p ∧ p < A 0 0 5 from hp) (fun a S' b c => h2 (by omega) a S' b c) (fun D a S' b c => h0 (by omega) D a S' b c) (by rw [giveL_11, if_pos rfl]) (fun q q0 q1 ql qp => ?_) (fun q q0 q1 ql => ?_) (A 0 0 5).toNat _ 0 (by omega) (show 0 + (((A 0 0 5).toNat : Nat) : Int) = A 0 0 5 from by omega) hR3 ((hF.put (by decide)).put (by decide)) (fun l a b => absurd b (by rw [lbc_z]; omega))
        · rw [giveL_8, if_neg qp] at ql
          rw [giveL_11, if_neg qp]
          have a := hd.2.2.2.2.2.1 q q0 q1 ql
          omega
        · rw [giveL_8] at ql
          rw [giveL_9]
          by_cases e : q = p
          · rw [if_pos e]; omega
          · rw [if_neg e] at ql ⊢
            have a := hd.2.2.2.2.2.1 q q0 q1 ql
            omega
      · refine es_s0 1 (pc' := 102) (ls' := [some (aR 20 (0 : Int)), some (aI p), some (aL w), none, some (aL hh), none, some (aI (lbc (dropL A p) i)), some (aI i), none, none, none, none, none, none]) (st' := [aI (1 : Int)]) (S' := S) rfl ?_
        refine es_iret rfl rfl rfl (Or.inl rfl) ?_
        exact h1 (by rw [← hd.wi.n, show dropL A p 0 0 5 = i from by show A 0 0 5 = i; omega]; omega) S hR hF
    · have hlb := (hR.2.2.2.2.2.2 i hi (by omega)).1
      refine es_sg 6 (p := ((0 : Int) = 0) ∧ (((0 : Int) = 0) ∧ (0 ≤ i ∧ i < 60))) (pc' := 77) (ls' := [some (aR 20 (0 : Int)), some (aI p), some (aL w), none, some (aL hh), none, some (aI (lbc (dropL A p) i)), some (aI i), none, none, none, none, none, none]) (st' := [aL (0 : Int), aL (S 40 0 i), aI (lbc (dropL A p) i)]) (S' := S) rfl ⟨rfl, ⟨rfl, (by omega)⟩⟩ ?_
      refine es_lif rfl rfl 85 rfl (rgL hg1 (t := 40) (i := (0 : Int)) (q := i) (by omega : 0 ≤ (0 : Int) ∧ (0 : Int) < 1) (by omega) rfl) ⟨by decide, by decide⟩ (fun (g77 : (S 40 0 i) ≤ (0 : Int)) => ?_) (fun (g77 : ¬ ((S 40 0 i) ≤ (0 : Int))) => ?_)
      · refine es_s0 5 (pc' := 58) (ls' := [some (aR 20 (0 : Int)), some (aI p), some (aL w), none, some (aL hh), none, some (aI ((lbc (dropL A p) i) + 0)), some (aI (i + 1)), none, none, none, none, none, none]) (st' := []) (S' := S) rfl ?_
        have hz : ¬ dropL A p 1 i 8 = 1 := fun z => by
          rw [if_pos z] at hlb
          have a := (hd.2.2.2.2.2.1 i hi (by omega) z).1
          omega
        rw [show lbc (dropL A p) i + 0 = lbc (dropL A p) i from by omega, ← lbc_s0 (A := dropL A p) hi hz]
        exact ih (n - 1) (by omega) S (i + 1) (by omega) (by omega) hR hF
      · refine es_s0 6 (pc' := 58) (ls' := [some (aR 20 (0 : Int)), some (aI p), some (aL w), none, some (aL hh), none, some (aI ((lbc (dropL A p) i) + 1)), some (aI (i + 1)), none, none, none, none, none, none]) (st' := []) (S' := S) rfl ?_
        rw [← lbc_s1 (A := dropL A p) hi (show dropL A p 1 i 8 = 1 from by
          by_cases z : dropL A p 1 i 8 = 1
          · exact z
          · rw [if_neg z] at hlb; omega)]
        exact ih (n - 1) (by omega) S (i + 1) (by omega) (by omega) hR hF
theorem n111 {G : Gw} {S : Sg} {k : Nat} {Q : AQ} {A : Sg} (hA : CI A) (hR : RR A S) {p w hh : Int} (hp : r32 p) (hw : r64 w) (hh' : r64 hh) (t1 : ¬ (0 ≤ p ∧ p < A 0 0 5) → Q (.inl (some (aI 0))) (su S 20 0 0 1)) (t2 : (0 ≤ p ∧ p < A 0 0 5) ∧ ¬ ((1 ≤ w ∧ w ≤ 1000) ∧ (1 ≤ hh ∧ hh ≤ 1000)) → Q (.inl (some (aI 0))) (su S 20 0 0 2)) (h1 : ((0 ≤ p ∧ p < A 0 0 5) ∧ ((1 ≤ w ∧ w ≤ 1000) ∧ (1 ≤ hh ∧ hh ≤ 1000))) ∧ 5 ≤ labC (dropL A p) → ∀ S' : Sg, RR (dropL A p) S' → Fx S S' → S' 20 0 0 = 0 → Q (.inl (some (aI 1))) S') (h2 : ((0 ≤ p ∧ p < A 0 0 5) ∧ ((1 ≤ w ∧ w ≤ 1000) ∧ (1 ≤ hh ∧ hh ≤ 1000))) ∧ labC (dropL A p) < 5 → (∀ d, ¬ vW (giveL (dropL A p) p w hh) (labC (giveL (dropL A p) p w hh)) d) → ∀ S' : Sg, RR (dropL (giveL (dropL A p) p w hh) p) S' → Fx S S' → S' 20 0 0 = 0 → Q (.inl (some (aI 1))) S') (h0 : ((0 ≤ p ∧ p < A 0 0 5) ∧ ((1 ≤ w ∧ w ≤ 1000) ∧ (1 ≤ hh ∧ hh ≤ 1000))) ∧ labC (dropL A p) < 5 → ∀ D, oW (giveL (dropL A p) p w hh) D → ∀ S' : Sg, RR (spF (giveL (dropL A p) p w hh) D (A 0 0 5)) S' → Fx S S' → S' 20 0 0 = 0 → Q (.inl (some (aI 0))) S') : Es G 111 0 (aEnt 14 [aR 20 (0 : Int), aI p, aL w, aL hh]) [] S (k + 3) Q := by
  have n1 := hA.1.1
  have n2 := hA.1.2.1
  have n3 := hA.1.2.2
  have e1 : S 20 0 1 = A 0 0 5 := hR.1.1
  have e10 : S 20 0 10 = A 0 0 6 := hR.1.2.1
  have e17 : S 20 0 17 = A 0 0 7 := hR.1.2.2
  refine es_rg (fun hg1 => ?_)
  refine es_s0 3 (pc' := 3) (ls' := [some (aR 20 (0 : Int)), some (aI p), some (aL w), none, some (aL hh), none, none, none, none, none, none, none, none, none]) (st' := [aI p, aR 20 (0 : Int), aR 20 (0 : Int)]) (S' := S) rfl ?_
  refine es_callV rfl rfl 20 (0 : Int) [aI p] [aR 20 (0 : Int)] rfl rfl rfl rfl (Nat.le_of_ble_eq_true rfl) (Nat.le_of_ble_eq_true rfl) (Nat.le_of_ble_eq_true rfl) ?_
  refine n26 (S := S) (n := p) (by assumption) (fun hc3 => ?_) (fun hc3 => ?_)
  · show Es G 111 6 [some (aR 20 (0 : Int)), some (aI p), some (aL w), none, some (aL hh), none, none, none, none, none, none, none, none, none] [aI (1 : Int), aR 20 (0 : Int)] S _ _
    refine es_if rfl 13 rfl ⟨by decide, by decide⟩ (fun (g6 : ¬ (1 : Int) = (0 : Int)) => ?_) (fun (g6 : ¬ (¬ (1 : Int) = (0 : Int))) => absurd g6 (by decide))
    refine es_s0 1 (pc' := 14) (ls' := [some (aR 20 (0 : Int)), some (aI p), some (aL w), none, some (aL hh), none, none, none, none, none, none, none, none, none]) (st' := [aL w, aR 20 (0 : Int)]) (S' := S) rfl ?_
    refine es_callS rfl rfl [aL w] [aR 20 (0 : Int)] rfl rfl (Nat.le_of_ble_eq_true rfl) (Nat.le_of_ble_eq_true rfl) (Nat.le_of_ble_eq_true rfl) ?_
    refine n12 (S := S) (v := w) (by assumption) (fun hc14 => ?_) (fun hc14 => ?_)
    · show Es G 111 17 [some (aR 20 (0 : Int)), some (aI p), some (aL w), none, some (aL hh), none, none, none, none, none, none, none, none, none] [aI (1 : Int), aR 20 (0 : Int)] S _ _
      refine es_if rfl 32 rfl ⟨by decide, by decide⟩ (fun (g17 : (1 : Int) = (0 : Int)) => absurd g17 (by decide)) (fun (g17 : ¬ ((1 : Int) = (0 : Int))) => ?_)
      refine es_s0 1 (pc' := 22) (ls' := [some (aR 20 (0 : Int)), some (aI p), some (aL w), none, some (aL hh), none, none, none, none, none, none, none, none, none]) (st' := [aL hh, aR 20 (0 : Int)]) (S' := S) rfl ?_
      refine es_callS rfl rfl [aL hh] [aR 20 (0 : Int)] rfl rfl (Nat.le_of_ble_eq_true rfl) (Nat.le_of_ble_eq_true rfl) (Nat.le_of_ble_eq_true rfl) ?_
      refine n12 (S := S) (v := hh) (by assumption) (fun hc22 => ?_) (fun hc22 => ?_)
      · show Es G 111 25 [some (aR 20 (0 : Int)), some (aI p), some (aL w), none, some (aL hh), none, none, none, none, none, none, none, none, none] [aI (1 : Int), aR 20 (0 : Int)] S _ _
        refine es_if rfl 32 rfl ⟨by decide, by decide⟩ (fun (g25 : (1 : Int) = (0 : Int)) => absurd g25 (by decide)) (fun (g25 : ¬ ((1 : Int) = (0 : Int))) => ?_)
        refine es_sg 3 (p := ((0 : Int) = 0) ∧ (r32 (0 : Int))) (pc' := 36) (ls' := [some (aR 20 (0 : Int)), some (aI p), some (aL w), none, some (aL hh), none, none, none, none, none, none, none, none, none]) (st' := []) (S' := su S 20 0 0 0) rfl ⟨rfl, ⟨by decide, by decide⟩⟩ ?_
        refine es_rg (fun hg2 => ?_)
        refine es_sg 2 (p := (0 : Int) = 0) (pc' := 40) (ls' := [some (aR 20 (0 : Int)), some (aI p), some (aL w), none, some (aL hh), none, none, none, none, none, none, none, none, none]) (st' := [aI (0 : Int)]) (S' := su S 20 0 0 0) rfl rfl ?_
        refine es_if rfl 45 rfl ⟨by omega, by omega⟩ (fun (g40 : (0 : Int) = (0 : Int)) => ?_) (fun (g40 : ¬ ((0 : Int) = (0 : Int))) => absurd g40 (by decide))
        refine es_sg 5 (p := ((0 : Int) = 0) ∧ ((((0 : Int) = 0) ∧ (0 ≤ p ∧ p < 60)) ∧ (r64 (0 : Int)))) (pc' := 52) (ls' := [some (aR 20 (0 : Int)), some (aI p), some (aL w), none, some (aL hh), none, none, none, none, none, none, none, none, none]) (st' := []) (S' := su (su S 20 0 0 0) 40 0 p 0) rfl ⟨rfl, ⟨⟨rfl, (by omega)⟩, ⟨by decide, by decide⟩⟩⟩ ?_
        refine es_rg (fun hg3 => ?_)
        refine es_s0 4 (pc' := 58) (ls' := [some (aR 20 (0 : Int)), some (aI p), some (aL w), none, some (aL hh), none, some (aI (0 : Int)), some (aI (0 : Int)), none, none, none, none, none, none]) (st' := []) (S' := su (su S 20 0 0 0) 40 0 p 0) rfl ?_
        exact n111_a (S0 := su S 20 0 0 0) hA (by omega) (by omega) (by omega) (fun a S' b c => h1 ⟨by omega, a⟩ S' b c.thr.1 c.thr.2) (fun a d S' b c => h2 ⟨by omega, a⟩ d S' b c.thr.1 c.thr.2) (fun a D d S' b c => h0 ⟨by omega, a⟩ D d S' b c.thr.1 c.thr.2) (A 0 0 5).toNat _ 0 (by omega) (by omega) (hR.thr.drop0) ((Fc.rf _).put (by decide))
      · show Es G 111 25 [some (aR 20 (0 : Int)), some (aI p), some (aL w), none, some (aL hh), none, none, none, none, none, none, none, none, none] [aI (0 : Int), aR 20 (0 : Int)] S _ _
        refine es_if rfl 32 rfl ⟨by decide, by decide⟩ (fun (g25 : (0 : Int) = (0 : Int)) => ?_) (fun (g25 : ¬ ((0 : Int) = (0 : Int))) => absurd g25 (by decide))
        refine es_sg 2 (p := ((0 : Int) = 0) ∧ (r32 (2 : Int))) (pc' := 36) (ls' := [some (aR 20 (0 : Int)), some (aI p), some (aL w), none, some (aL hh), none, none, none, none, none, none, none, none, none]) (st' := []) (S' := su S 20 0 0 2) rfl ⟨rfl, ⟨by decide, by decide⟩⟩ ?_
        refine es_rg (fun hg4 => ?_)
        refine es_sg 2 (p := (0 : Int) = 0) (pc' := 40) (ls' := [some (aR 20 (0 : Int)), some (aI p), some (aL w), none, some (aL hh), none, none, none, none, none, none, none, none, none]) (st' := [aI (2 : Int)]) (S' := su S 20 0 0 2) rfl rfl ?_
        refine es_if rfl 45 rfl ⟨by omega, by omega⟩ (fun (g40 : (2 : Int) = (0 : Int)) => absurd g40 (by decide)) (fun (g40 : ¬ ((2 : Int) = (0 : Int))) => ?_)
        refine es_s0 1 (pc' := 44) (ls' := [some (aR 20 (0 : Int)), some (aI p), some (aL w), none, some (aL hh), none, none, none, none, none, none, none, none, none]) (st' := [aI (0 : Int)]) (S' := su S 20 0 0 2) rfl ?_
        refine es_iret rfl rfl rfl (Or.inl rfl) ?_
        first | exact t2 (by omega) | (exfalso; omega)
    · show Es G 111 17 [some (aR 20 (0 : Int)), some (aI p), some (aL w), none, some (aL hh), none, none, none, none, none, none, none, none, none] [aI (0 : Int), aR 20 (0 : Int)] S _ _
      refine es_if rfl 32 rfl ⟨by decide, by decide⟩ (fun (g17 : (0 : Int) = (0 : Int)) => ?_) (fun (g17 : ¬ ((0 : Int) = (0 : Int))) => absurd g17 (by decide))
      refine es_sg 2 (p := ((0 : Int) = 0) ∧ (r32 (2 : Int))) (pc' := 36) (ls' := [some (aR 20 (0 : Int)), some (aI p), some (aL w), none, some (aL hh), none, none, none, none, none, none, none, none, none]) (st' := []) (S' := su S 20 0 0 2) rfl ⟨rfl, ⟨by decide, by decide⟩⟩ ?_
      refine es_rg (fun hg5 => ?_)
      refine es_sg 2 (p := (0 : Int) = 0) (pc' := 40) (ls' := [some (aR 20 (0 : Int)), some (aI p), some (aL w), none, some (aL hh), none, none, none, none, none, none, none, none, none]) (st' := [aI (2 : Int)]) (S' := su S 20 0 0 2) rfl rfl ?_
      refine es_if rfl 45 rfl ⟨by omega, by omega⟩ (fun (g40 : (2 : Int) = (0 : Int)) => absurd g40 (by decide)) (fun (g40 : ¬ ((2 : Int) = (0 : Int))) => ?_)
      refine es_s0 1 (pc' := 44) (ls' := [some (aR 20 (0 : Int)), some (aI p), some (aL w), none, some (aL hh), none, none, none, none, none, none, none, none, none]) (st' := [aI (0 : Int)]) (S' := su S 20 0 0 2) rfl ?_
      refine es_iret rfl rfl rfl (Or.inl rfl) ?_
      first | exact t2 (by omega) | (exfalso; omega)
  · show Es G 111 6 [some (aR 20 (0 : Int)), some (aI p), some (aL w), none, some (aL hh), none, none, none, none, none, none, none, none, none] [aI (0 : Int), aR 20 (0 : Int)] S _ _
    refine es_if rfl 13 rfl ⟨by decide, by decide⟩ (fun (g6 : ¬ (0 : Int) = (0 : Int)) => absurd g6 (by decide)) (fun (g6 : ¬ (¬ (0 : Int) = (0 : Int))) => ?_)
    refine es_sg 3 (p := ((0 : Int) = 0) ∧ (r32 (1 : Int))) (pc' := 36) (ls' := [some (aR 20 (0 : Int)), some (aI p), some (aL w), none, some (aL hh), none, none, none, none, none, none, none, none, none]) (st' := []) (S' := su S 20 0 0 1) rfl ⟨rfl, ⟨by decide, by decide⟩⟩ ?_
    refine es_rg (fun hg6 => ?_)
    refine es_sg 2 (p := (0 : Int) = 0) (pc' := 40) (ls' := [some (aR 20 (0 : Int)), some (aI p), some (aL w), none, some (aL hh), none, none, none, none, none, none, none, none, none]) (st' := [aI (1 : Int)]) (S' := su S 20 0 0 1) rfl rfl ?_
    refine es_if rfl 45 rfl ⟨by omega, by omega⟩ (fun (g40 : (1 : Int) = (0 : Int)) => absurd g40 (by decide)) (fun (g40 : ¬ ((1 : Int) = (0 : Int))) => ?_)
    refine es_s0 1 (pc' := 44) (ls' := [some (aR 20 (0 : Int)), some (aI p), some (aL w), none, some (aL hh), none, none, none, none, none, none, none, none, none]) (st' := [aI (0 : Int)]) (S' := su S 20 0 0 1) rfl ?_
    refine es_iret rfl rfl rfl (Or.inl rfl) ?_
    first | exact t1 (by omega) | (exfalso; omega)
