/-! THE BUILDING: the class's object, the reference's, and where the law begins -/
def pf (G : Gw) (i : Nat) : Nat → Option Nat := fun q => if q < i then some (ad G 1 (q : Int)) else none
def cf (G : Gw) (i : Nat) : Nat → Option Nat := fun q => if q < i then some (ad G 2 (q : Int)) else none
def rf (G : Gw) (i : Nat) : Nat → Option Nat := fun q => if q < i then some (ad G 4 (q : Int)) else none
def noF : Nat → Option Nat := fun _ => none
theorem up_s (g : Nat → Nat) (i : Nat) : va_up (fun q => if q < i then some (g q) else none) i (some (g i)) = fun q => if q < i + 1 then some (g q) else none := by
  funext q
  unfold va_up
  by_cases e : q = i
  · subst e
    rw [if_pos rfl, if_pos (by omega)]
  · rw [if_neg e]
    show (if q < i then some (g q) else none) = _
    by_cases h : q < i
    · rw [if_pos h, if_pos (by omega)]
    · rw [if_neg h, if_neg (by omega)]
theorem pf_z (G : Gw) : pf G 0 = noF := by funext q; unfold pf noF; rw [if_neg (Nat.not_lt_zero q)]
theorem cf_z (G : Gw) : cf G 0 = noF := by funext q; unfold cf noF; rw [if_neg (Nat.not_lt_zero q)]
theorem rf_z (G : Gw) : rf G 0 = noF := by funext q; unfold rf noF; rw [if_neg (Nat.not_lt_zero q)]
theorem ad1 (G : Gw) (i : Nat) : ad G 1 (i : Int) = G.b0 + (14 + i) := by
  rw [ad_in (by decide)]
  show G.b0 + (14 + 1 * i) = _
  omega
theorem ad2 (G : Gw) (i : Nat) : ad G 2 (i : Int) = G.b0 + (74 + 2 * i) := by
  rw [ad_in (by decide)]
  rfl
theorem ad3 (G : Gw) (i : Nat) : ad G 3 (i : Int) = G.b0 + (74 + 2 * i) + 1 := by
  rw [ad_in (by decide)]
  show G.b0 + (75 + 2 * i) = _
  omega
theorem ad4 (G : Gw) (i : Nat) : ad G 4 (i : Int) = G.b0 + (114 + i) := by
  rw [ad_in (by decide)]
  show G.b0 + (114 + 1 * i) = _
  omega
def arrO (G : Gw) (x N : Nat) (f : Nat → Option Nat) : va_E := .inl (G.dA x, N, .inr (.inr (.inr (.inr f))))
def hdL (G : Gw) (f g h : Nat → Option Nat) : List va_E := .inr (5, [.ref (G.b0 + 1), .ref (G.b0 + 2), .ref (G.b0 + 3), .ref (G.b0 + 4), .ref (G.b0 + 5), .int 0, .int 0, .int 0, .long 0]) :: arrO G 3 60 f :: arrO G 4 20 g :: arrO G 5 10 h :: .inr (3, obDf 3) :: srchC G (G.b0 + 5)
def roomC : va_E := .inr (4, obDf 4)
def chs (G : Gw) : Nat → List va_E
  | 0 => []
  | i + 1 => chs G i ++ [chanC (G.b0 + (74 + 2 * i)), fillC G 20]
theorem chs_len (G : Gw) (n : Nat) : (chs G n).length = 2 * n := by
  induction n with
  | zero => rfl
  | succ n ih =>
    show (chs G n ++ [chanC (G.b0 + (74 + 2 * n)), fillC G 20]).length = _
    rw [List.length_append, ih]
    show 2 * n + 2 = _
    omega
theorem chs_get (G : Gw) (n i : Nat) (h : i < n) : (chs G n)[2 * i]? = some (chanC (G.b0 + (74 + 2 * i))) ∧ (chs G n)[2 * i + 1]? = some (fillC G 20) := by
  induction n with
  | zero => omega
  | succ n ih =>
    have hl := chs_len G n
    show (chs G n ++ [chanC (G.b0 + (74 + 2 * n)), fillC G 20])[2 * i]? = _ ∧ (chs G n ++ [chanC (G.b0 + (74 + 2 * n)), fillC G 20])[2 * i + 1]? = _
    by_cases e : i < n
    · rw [List.getElem?_append_left (by omega), List.getElem?_append_left (by omega)]
      exact ih e
    · have e2 : i = n := by omega
      subst e2
      rw [List.getElem?_append_right (by omega), List.getElem?_append_right (by omega), hl, Nat.sub_self, show 2 * i + 1 - 2 * i = 1 from by omega]
      exact ⟨rfl, rfl⟩
theorem hd_len {G : Gw} {f g h : Nat → Option Nat} {r : List va_E} : (hdL G f g h ++ r).length = 14 + r.length := by
  rw [List.length_append]
  rfl
theorem last_get {l : List va_E} {e : va_E} {n : Nat} {s : List va_E} (h : l.length = n) : (l ++ (e :: s))[n]? = some e := by
  rw [List.getElem?_append_right (by omega), h, Nat.sub_self]
  rfl
theorem kR {G : Gw} {M : Mm} {fr lo s0 : Nat} {Q : Po} (h1 : G.b0 + 200 ≤ G.b0 + mm_mxC) (h2 : s0 + 3000 ≤ mm_mxS) (h3 : 3 ≤ fr) (h4 : 200 ≤ lo) (h : ∀ sl', sl' ≤ s0 + 50 → Q (.inl none) (ov M G.b0 (hdL G (pf G 60) (cf G 20) (rf G 10) ++ (List.replicate 60 partC ++ chs G 20 ++ List.replicate 10 roomC))) (G.b0 + 124) sl') : ∀ (n i sl : Nat), i + n = 10 → sl ≤ s0 + 5 * i → Ev G 6 109 [some (.ref G.b0), some (.int (nI i))] [] (ov M G.b0 (hdL G (pf G 60) (cf G 20) (rf G i) ++ (List.replicate 60 partC ++ chs G 20 ++ List.replicate i roomC))) (G.b0 + (114 + i)) sl fr lo Q := by
  intro n
  induction n with
  | zero =>
    intro i sl hi hs
    have e : i = 10 := by omega
    subst e
    refine ev_run 2 (pc' := 112) (ls' := [some (.ref G.b0), some (.int (nI 10))]) (st' := [.int (nI 10), .int (nI 10)]) rfl ?_
    refine ev_icmp rfl 134 rfl (fun _ => ?_) (fun g => absurd ((nI_geq (by omega) (by omega)).mpr (Nat.le_refl 10)) g)
    refine ev_vret rfl ?_
    exact h sl (by omega)
  | succ n ih =>
    intro i sl hi hs
    have hl : (hdL G (pf G 60) (cf G 20) (rf G i) ++ (List.replicate 60 partC ++ chs G 20 ++ List.replicate i roomC)).length = (114 + i) := by
      rw [hd_len]
      rw [List.length_append, List.length_append, List.length_replicate, List.length_replicate, chs_len]; omega
    refine ev_run 2 (pc' := 112) (ls' := [some (.ref G.b0), some (.int (nI i))]) (st' := [.int (nI 10), .int (nI i)]) rfl ?_
    refine ev_icmp rfl 134 rfl (fun g => absurd ((nI_geq (by omega) (by omega)).mp g) (by omega)) (fun _ => ?_)
    refine ev_run 1 (pc' := 116) (ls' := [some (.ref G.b0), some (.int (nI i))]) (st' := [.ref G.b0]) rfl ?_
    refine bv_get (a := G.b0) 0 rfl rfl rfl ?_
    refine ev_run 1 (pc' := 120) (ls' := [some (.ref G.b0), some (.int (nI i))]) (st' := [.int (nI i), .ref (G.b0 + 3)]) rfl ?_
    refine bv_new (a := G.b0) (n := (114 + i)) (N := 5) rfl hl rfl (by omega) (by omega) ?_
    refine ev_run 1 (pc' := 124) (ls' := [some (.ref G.b0), some (.int (nI i))]) (st' := [.ref (G.b0 + (114 + i)), .ref (G.b0 + (114 + i)), .int (nI i), .ref (G.b0 + 3)]) rfl ?_
    refine bv_call (a := G.b0) (n := (114 + i)) (m := 1) (B := 0) (fin := [roomC]) (mi := mi5) rfl rfl rfl (Nat.le_of_ble_eq_true rfl) hl (by omega) (show 1 + 25 ≤ lo from by omega) (Nat.le_of_ble_eq_true rfl) (fun Q' hq => k5 (by omega) (by omega) (by omega) (show 100 ≤ lo - (1 + 25) from by omega) hq) (fun sl1 hs1 => ?_)
    refine ev_aast (n := 10) (f := rf G i) rfl (ov_at (a := G.b0) (k := 3) rfl) (vp_in_nI (by omega) (by decide)) (ov_at (a := G.b0) (k := (114 + i)) (last_get hl)) ?_
    rw [nI_clamp (by omega), ov_set (a := G.b0) (k := 3) (by rw [List.length_append, hl]; omega)]
    have e1 : va_up (rf G i) i (some (G.b0 + (114 + i))) = rf G (i + 1) := by
      rw [← ad4 G i]
      exact up_s (fun q => ad G 4 (q : Int)) i
    have e2 : (hdL G (pf G 60) (cf G 20) (rf G i) ++ (List.replicate 60 partC ++ chs G 20 ++ List.replicate i roomC) ++ [roomC]).set 3 (arrO G 5 10 (va_up (rf G i) i (some (G.b0 + (114 + i))))) = hdL G (pf G 60) (cf G 20) (rf G (i + 1)) ++ (List.replicate 60 partC ++ chs G 20 ++ List.replicate (i + 1) roomC) := by
      rw [e1, List.append_assoc, show List.replicate 60 partC ++ chs G 20 ++ List.replicate i roomC ++ [roomC] = List.replicate 60 partC ++ chs G 20 ++ List.replicate (i + 1) roomC from by rw [List.append_assoc, ← show List.replicate (i + 1) roomC = List.replicate i roomC ++ [roomC] from List.replicate_succ']]
      rfl
    refine ev_run 2 (pc' := 109) (ls' := [some (.ref G.b0), some (.int (nI i + 1))]) (st' := []) rfl ?_
    rw [← nI_succ]
    have z := ih (i + 1) sl1 (by omega) (by omega)
    rw [← e2, show G.b0 + (114 + (i + 1)) = G.b0 + ((114 + i) + 1) from by omega] at z
    exact z
theorem kC {G : Gw} {M : Mm} {fr lo s0 : Nat} {Q : Po} (h1 : G.b0 + 200 ≤ G.b0 + mm_mxC) (h2 : s0 + 3000 ≤ mm_mxS) (h3 : 3 ≤ fr) (h4 : 200 ≤ lo) (h : ∀ sl', sl' ≤ s0 + 540 → Ev G 6 109 [some (.ref G.b0), some (.int (nI 0))] [] (ov M G.b0 (hdL G (pf G 60) (cf G 20) (rf G 0) ++ (List.replicate 60 partC ++ chs G 20))) (G.b0 + 114) sl' fr lo Q) : ∀ (n i sl : Nat), i + n = 20 → sl ≤ s0 + 27 * i → Ev G 6 82 [some (.ref G.b0), some (.int (nI i))] [] (ov M G.b0 (hdL G (pf G 60) (cf G i) (rf G 0) ++ (List.replicate 60 partC ++ chs G i))) (G.b0 + (74 + 2 * i)) sl fr lo Q := by
  intro n
  induction n with
  | zero =>
    intro i sl hi hs
    have e : i = 20 := by omega
    subst e
    refine ev_run 2 (pc' := 85) (ls' := [some (.ref G.b0), some (.int (nI 20))]) (st' := [.int (nI 20), .int (nI 20)]) rfl ?_
    refine ev_icmp rfl 107 rfl (fun _ => ?_) (fun g => absurd ((nI_geq (by omega) (by omega)).mpr (Nat.le_refl 20)) g)
    refine ev_run 2 (pc' := 109) (ls' := [some (.ref G.b0), some (.int (nI 0))]) (st' := []) rfl ?_
    exact h sl (by omega)
  | succ n ih =>
    intro i sl hi hs
    have hl : (hdL G (pf G 60) (cf G i) (rf G 0) ++ (List.replicate 60 partC ++ chs G i)).length = (74 + 2 * i) := by
      rw [hd_len]
      rw [List.length_append, List.length_replicate, chs_len]; omega
    refine ev_run 2 (pc' := 85) (ls' := [some (.ref G.b0), some (.int (nI i))]) (st' := [.int (nI 20), .int (nI i)]) rfl ?_
    refine ev_icmp rfl 107 rfl (fun g => absurd ((nI_geq (by omega) (by omega)).mp g) (by omega)) (fun _ => ?_)
    refine ev_run 1 (pc' := 89) (ls' := [some (.ref G.b0), some (.int (nI i))]) (st' := [.ref G.b0]) rfl ?_
    refine bv_get (a := G.b0) 0 rfl rfl rfl ?_
    refine ev_run 1 (pc' := 93) (ls' := [some (.ref G.b0), some (.int (nI i))]) (st' := [.int (nI i), .ref (G.b0 + 2)]) rfl ?_
    refine bv_new (a := G.b0) (n := (74 + 2 * i)) (N := 7) rfl hl rfl (by omega) (by omega) ?_
    refine ev_run 1 (pc' := 97) (ls' := [some (.ref G.b0), some (.int (nI i))]) (st' := [.ref (G.b0 + (74 + 2 * i)), .ref (G.b0 + (74 + 2 * i)), .int (nI i), .ref (G.b0 + 2)]) rfl ?_
    refine bv_call (a := G.b0) (n := (74 + 2 * i)) (m := 2) (B := 20) (fin := [chanC (G.b0 + (74 + 2 * i)), fillC G 20]) (mi := mi4) rfl rfl rfl (Nat.le_of_ble_eq_true rfl) hl (by omega) (show 1 + 25 ≤ lo from by omega) (Nat.le_of_ble_eq_true rfl) (fun Q' hq => k4 (by omega) (by omega) (by omega) (show 100 ≤ lo - (1 + 25) from by omega) hq) (fun sl1 hs1 => ?_)
    refine ev_aast (n := 20) (f := cf G i) rfl (ov_at (a := G.b0) (k := 2) rfl) (vp_in_nI (by omega) (by decide)) (ov_at (a := G.b0) (k := (74 + 2 * i)) (last_get hl)) ?_
    rw [nI_clamp (by omega), ov_set (a := G.b0) (k := 2) (by rw [List.length_append, hl]; omega)]
    have e1 : va_up (cf G i) i (some (G.b0 + (74 + 2 * i))) = cf G (i + 1) := by
      rw [← ad2 G i]
      exact up_s (fun q => ad G 2 (q : Int)) i
    have e2 : (hdL G (pf G 60) (cf G i) (rf G 0) ++ (List.replicate 60 partC ++ chs G i) ++ [chanC (G.b0 + (74 + 2 * i)), fillC G 20]).set 2 (arrO G 4 20 (va_up (cf G i) i (some (G.b0 + (74 + 2 * i))))) = hdL G (pf G 60) (cf G (i + 1)) (rf G 0) ++ (List.replicate 60 partC ++ chs G (i + 1)) := by
      rw [e1, List.append_assoc, show List.replicate 60 partC ++ chs G i ++ [chanC (G.b0 + (74 + 2 * i)), fillC G 20] = List.replicate 60 partC ++ chs G (i + 1) from by rw [List.append_assoc]; rfl]
      rfl
    refine ev_run 2 (pc' := 82) (ls' := [some (.ref G.b0), some (.int (nI i + 1))]) (st' := []) rfl ?_
    rw [← nI_succ]
    have z := ih (i + 1) sl1 (by omega) (by omega)
    rw [← e2, show G.b0 + (74 + 2 * (i + 1)) = G.b0 + ((74 + 2 * i) + 2) from by omega] at z
    exact z
theorem kP {G : Gw} {M : Mm} {fr lo s0 : Nat} {Q : Po} (h1 : G.b0 + 200 ≤ G.b0 + mm_mxC) (h2 : s0 + 3000 ≤ mm_mxS) (h3 : 3 ≤ fr) (h4 : 200 ≤ lo) (h : ∀ sl', sl' ≤ s0 + 720 → Ev G 6 82 [some (.ref G.b0), some (.int (nI 0))] [] (ov M G.b0 (hdL G (pf G 60) (cf G 0) (rf G 0) ++ List.replicate 60 partC)) (G.b0 + 74) sl' fr lo Q) : ∀ (n i sl : Nat), i + n = 60 → sl ≤ s0 + 12 * i → Ev G 6 55 [some (.ref G.b0), some (.int (nI i))] [] (ov M G.b0 (hdL G (pf G i) (cf G 0) (rf G 0) ++ List.replicate i partC)) (G.b0 + (14 + i)) sl fr lo Q := by
  intro n
  induction n with
  | zero =>
    intro i sl hi hs
    have e : i = 60 := by omega
    subst e
    refine ev_run 2 (pc' := 58) (ls' := [some (.ref G.b0), some (.int (nI 60))]) (st' := [.int (nI 60), .int (nI 60)]) rfl ?_
    refine ev_icmp rfl 80 rfl (fun _ => ?_) (fun g => absurd ((nI_geq (by omega) (by omega)).mpr (Nat.le_refl 60)) g)
    refine ev_run 2 (pc' := 82) (ls' := [some (.ref G.b0), some (.int (nI 0))]) (st' := []) rfl ?_
    exact h sl (by omega)
  | succ n ih =>
    intro i sl hi hs
    have hl : (hdL G (pf G i) (cf G 0) (rf G 0) ++ List.replicate i partC).length = (14 + i) := by
      rw [hd_len]
      rw [List.length_replicate]
    refine ev_run 2 (pc' := 58) (ls' := [some (.ref G.b0), some (.int (nI i))]) (st' := [.int (nI 60), .int (nI i)]) rfl ?_
    refine ev_icmp rfl 80 rfl (fun g => absurd ((nI_geq (by omega) (by omega)).mp g) (by omega)) (fun _ => ?_)
    refine ev_run 1 (pc' := 62) (ls' := [some (.ref G.b0), some (.int (nI i))]) (st' := [.ref G.b0]) rfl ?_
    refine bv_get (a := G.b0) 0 rfl rfl rfl ?_
    refine ev_run 1 (pc' := 66) (ls' := [some (.ref G.b0), some (.int (nI i))]) (st' := [.int (nI i), .ref (G.b0 + 1)]) rfl ?_
    refine bv_new (a := G.b0) (n := (14 + i)) (N := 12) rfl hl rfl (by omega) (by omega) ?_
    refine ev_run 1 (pc' := 70) (ls' := [some (.ref G.b0), some (.int (nI i))]) (st' := [.ref (G.b0 + (14 + i)), .ref (G.b0 + (14 + i)), .int (nI i), .ref (G.b0 + 1)]) rfl ?_
    refine bv_call (a := G.b0) (n := (14 + i)) (m := 1) (B := 0) (fin := [partC]) (mi := mi2) rfl rfl rfl (Nat.le_of_ble_eq_true rfl) hl (by omega) (show 1 + 25 ≤ lo from by omega) (Nat.le_of_ble_eq_true rfl) (fun Q' hq => k2 (by omega) (by omega) (by omega) (show 100 ≤ lo - (1 + 25) from by omega) hq) (fun sl1 hs1 => ?_)
    refine ev_aast (n := 60) (f := pf G i) rfl (ov_at (a := G.b0) (k := 1) rfl) (vp_in_nI (by omega) (by decide)) (ov_at (a := G.b0) (k := (14 + i)) (last_get hl)) ?_
    rw [nI_clamp (by omega), ov_set (a := G.b0) (k := 1) (by rw [List.length_append, hl]; omega)]
    have e1 : va_up (pf G i) i (some (G.b0 + (14 + i))) = pf G (i + 1) := by
      rw [← ad1 G i]
      exact up_s (fun q => ad G 1 (q : Int)) i
    have e2 : (hdL G (pf G i) (cf G 0) (rf G 0) ++ List.replicate i partC ++ [partC]).set 1 (arrO G 3 60 (va_up (pf G i) i (some (G.b0 + (14 + i))))) = hdL G (pf G (i + 1)) (cf G 0) (rf G 0) ++ List.replicate (i + 1) partC := by
      rw [e1, List.append_assoc, show List.replicate i partC ++ [partC] = List.replicate (i + 1) partC from (List.replicate_succ').symm]
      rfl
    refine ev_run 2 (pc' := 55) (ls' := [some (.ref G.b0), some (.int (nI i + 1))]) (st' := []) rfl ?_
    rw [← nI_succ]
    have z := ih (i + 1) sl1 (by omega) (by omega)
    rw [← e2, show G.b0 + (14 + (i + 1)) = G.b0 + ((14 + i) + 1) from by omega] at z
    exact z
theorem k6 {G : Gw} {M : Mm} {sl fr lo : Nat} {Q : Po} (h1 : G.b0 + 200 ≤ G.b0 + mm_mxC) (h2 : sl + 5000 ≤ mm_mxS) (h3 : 3 ≤ fr) (h4 : 200 ≤ lo) (h : ∀ sl', sl' ≤ sl + 5000 → Q (.inl none) (ov M G.b0 (hdL G (pf G 60) (cf G 20) (rf G 10) ++ (List.replicate 60 partC ++ chs G 20 ++ List.replicate 10 roomC))) (G.b0 + 124) sl') : Ev G 6 0 (loEnt 2 [.ref G.b0]) [] (ov M G.b0 [.inr (5, obDf 5)]) (G.b0 + 1) sl fr lo Q := by
  refine ev_run 1 (pc' := 1) (ls' := [some (.ref G.b0), none]) (st' := [.ref G.b0]) rfl ?_
  refine ev_obj rfl (by omega) (show 0 + 12 ≤ lo from by omega) ?_
  refine ev_run 2 (pc' := 7) (ls' := [some (.ref G.b0), none]) (st' := [.int (Int32.ofInt 60), .ref G.b0]) rfl ?_
  refine bv_anew (a := G.b0) (n := 1) rfl rfl 60 rfl (by decide) (by omega) (by omega) (by decide) ?_
  refine bv_put (a := G.b0) 0 rfl rfl (Nat.le_of_ble_eq_true rfl) rfl rfl ?_
  refine ev_run 2 (pc' := 16) (ls' := [some (.ref G.b0), none]) (st' := [.int (Int32.ofInt 20), .ref G.b0]) rfl ?_
  refine bv_anew (a := G.b0) (n := 2) rfl rfl 20 rfl (by decide) (by omega) (by omega) (by decide) ?_
  refine bv_put (a := G.b0) 0 rfl rfl (Nat.le_of_ble_eq_true rfl) rfl rfl ?_
  refine ev_run 2 (pc' := 25) (ls' := [some (.ref G.b0), none]) (st' := [.int (Int32.ofInt 10), .ref G.b0]) rfl ?_
  refine bv_anew (a := G.b0) (n := 3) rfl rfl 10 rfl (by decide) (by omega) (by omega) (by decide) ?_
  refine bv_put (a := G.b0) 0 rfl rfl (Nat.le_of_ble_eq_true rfl) rfl rfl ?_
  refine ev_run 1 (pc' := 32) (ls' := [some (.ref G.b0), none]) (st' := [.ref G.b0]) rfl ?_
  refine bv_new (a := G.b0) (n := 4) (N := 7) rfl rfl rfl (by omega) (by omega) ?_
  refine ev_run 1 (pc' := 36) (ls' := [some (.ref G.b0), none]) (st' := [.ref (G.b0 + 4), .ref (G.b0 + 4), .ref G.b0]) rfl ?_
  refine bv_call (a := G.b0) (n := 4) (m := 1) (B := 0) (fin := [.inr (3, obDf 3)]) (mi := mi0) rfl rfl rfl (Nat.le_of_ble_eq_true rfl) rfl (by omega) (show 1 + 25 ≤ lo from by omega) (Nat.le_of_ble_eq_true rfl) (fun Q' hq => k0 (by omega) (by omega) (by omega) (show 100 ≤ lo - (1 + 25) from by omega) hq) (fun sl1 hs1 => ?_)
  refine bv_put (a := G.b0) 0 rfl rfl (Nat.le_of_ble_eq_true rfl) rfl rfl ?_
  refine ev_run 1 (pc' := 43) (ls' := [some (.ref G.b0), none]) (st' := [.ref G.b0]) rfl ?_
  refine bv_new (a := G.b0) (n := 5) (N := 9) rfl rfl rfl (by omega) (by omega) ?_
  refine ev_run 1 (pc' := 47) (ls' := [some (.ref G.b0), none]) (st' := [.ref (G.b0 + 5), .ref (G.b0 + 5), .ref G.b0]) rfl ?_
  refine bv_call (a := G.b0) (n := 5) (m := 9) (B := 400) (fin := srchC G (G.b0 + 5)) (mi := mi1) rfl rfl rfl (Nat.le_of_ble_eq_true rfl) rfl (by omega) (show 1 + 25 ≤ lo from by omega) (Nat.le_of_ble_eq_true rfl) (fun Q' hq => k1 (by omega) (by omega) (by omega) (show 100 ≤ lo - (1 + 25) from by omega) hq) (fun sl2 hs2 => ?_)
  refine bv_put (a := G.b0) 0 rfl rfl (Nat.le_of_ble_eq_true rfl) rfl rfl ?_
  refine ev_run 2 (pc' := 55) (ls' := [some (.ref G.b0), some (.int (Int32.ofInt 0))]) (st' := []) rfl ?_
  have z := kP (M := M) (fr := fr) (lo := lo) (s0 := sl2) (Q := Q) h1 (by omega) h3 h4 (fun s3 hs3 => by
    have z := kC (M := M) (fr := fr) (lo := lo) (s0 := s3) (Q := Q) h1 (by omega) h3 h4 (fun s4 hs4 => by
      have z := kR (M := M) (fr := fr) (lo := lo) (s0 := s4) (Q := Q) h1 (by omega) h3 h4 (fun s5 hs5 => h s5 (by omega)) 10 0 s4 (by omega) (by omega)
      rw [show List.replicate 0 roomC = [] from rfl, List.append_nil] at z
      exact z) 20 0 s3 (by omega) (by omega)
    rw [show chs G 0 = [] from rfl, List.append_nil] at z
    exact z) 60 0 sl2 (by omega) (by omega)
  rw [pf_z, cf_z, rf_z] at z
  exact z
