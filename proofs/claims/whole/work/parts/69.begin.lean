/-! WHERE THE LAW BEGINS -/
def S0 : Sg := fun t _ j => if t = 1 then (if j = 5 ∨ j = 6 ∨ j = 11 then -1 else 0) else if t = 2 then (if j = 0 then -1 else 0) else if t = 3 then (if j < 20 then -1 else 0) else 0
def endL (G : Gw) : List va_E := hdL G (pf G 60) (cf G 20) (rf G 10) ++ (List.replicate 60 partC ++ (chs G 20 ++ (List.replicate 10 roomC ++ (modC G (G.b0 + 124) ++ [aryC G 1 1]))))
theorem endL_1 (G : Gw) {i : Nat} (h : i < 60) : (endL G)[14 + i]? = some partC := by
  unfold endL
  rw [List.getElem?_append_right (by show 14 ≤ 14 + i; omega), show 14 + i - (hdL G (pf G 60) (cf G 20) (rf G 10)).length = i from by show 14 + i - 14 = i; omega, List.getElem?_append_left (by rw [List.length_replicate]; exact h), List.getElem?_replicate, if_pos h]
theorem endL_2 (G : Gw) {i : Nat} (h : i < 20) : (endL G)[74 + 2 * i]? = some (chanC (G.b0 + (74 + 2 * i))) ∧ (endL G)[75 + 2 * i]? = some (fillC G 20) := by
  have hl := chs_len G 20
  have e := chs_get G 20 i h
  unfold endL
  refine ⟨?_, ?_⟩
  · rw [List.getElem?_append_right (by show 14 ≤ 74 + 2 * i; omega), show 74 + 2 * i - (hdL G (pf G 60) (cf G 20) (rf G 10)).length = 60 + 2 * i from by show 74 + 2 * i - 14 = 60 + 2 * i; omega, List.getElem?_append_right (by rw [List.length_replicate]; omega), List.length_replicate, show 60 + 2 * i - 60 = 2 * i from by omega, List.getElem?_append_left (by omega)]
    exact e.1
  · rw [List.getElem?_append_right (by show 14 ≤ 75 + 2 * i; omega), show 75 + 2 * i - (hdL G (pf G 60) (cf G 20) (rf G 10)).length = 61 + 2 * i from by show 75 + 2 * i - 14 = 61 + 2 * i; omega, List.getElem?_append_right (by rw [List.length_replicate]; omega), List.length_replicate, show 61 + 2 * i - 60 = 2 * i + 1 from by omega, List.getElem?_append_left (by omega)]
    exact e.2
theorem endL_4 (G : Gw) {i : Nat} (h : i < 10) : (endL G)[114 + i]? = some roomC := by
  have hl := chs_len G 20
  unfold endL
  rw [List.getElem?_append_right (by show 14 ≤ 114 + i; omega), show 114 + i - (hdL G (pf G 60) (cf G 20) (rf G 10)).length = 100 + i from by show 114 + i - 14 = 100 + i; omega, List.getElem?_append_right (by rw [List.length_replicate]; omega), List.length_replicate, show 100 + i - 60 = 40 + i from by omega, List.getElem?_append_right (by omega), hl, show 40 + i - 2 * 20 = i from by omega, List.getElem?_append_left (by rw [List.length_replicate]; exact h), List.getElem?_replicate, if_pos h]
/-- behind the parts, the channels and the rooms -/
theorem endL_b (G : Gw) (j : Nat) : (endL G)[124 + j]? = (modC G (G.b0 + 124) ++ [aryC G 1 1])[j]? := by
  have hl := chs_len G 20
  unfold endL
  rw [List.getElem?_append_right (by show 14 ≤ 124 + j; omega), show 124 + j - (hdL G (pf G 60) (cf G 20) (rf G 10)).length = 110 + j from by show 124 + j - 14 = 110 + j; omega, List.getElem?_append_right (by rw [List.length_replicate]; omega), List.length_replicate, show 110 + j - 60 = 50 + j from by omega, List.getElem?_append_right (by omega), hl, show 50 + j - 2 * 20 = 10 + j from by omega, List.getElem?_append_right (by rw [List.length_replicate]; omega), List.length_replicate, show 10 + j - 10 = j from by omega]
theorem ff_S0 (i : Int) : ff 20 = fun q : Nat => i32 (S0 3 i (q : Int)) := by
  funext q
  show (if q < 20 then (-1 : Int32) else 0) = i32 (if (q : Int) < 20 then -1 else 0)
  by_cases h : q < 20
  · rw [if_pos h, if_pos (by omega)]
    rfl
  · rw [if_neg h, if_neg (by omega)]
    rfl
theorem c1_eq (G : Gw) (i : Int) : partC = cellV G S0 1 i := rfl
theorem c2_eq (G : Gw) (i : Nat) : chanC (G.b0 + (74 + 2 * i)) = cellV G S0 2 (i : Int) := by
  unfold chanC
  rw [← ad3]
  rfl
theorem c3_eq (G : Gw) (i : Int) : fillC G 20 = cellV G S0 3 i := by
  unfold fillC
  rw [ff_S0 i]
  rfl
theorem c4_eq (G : Gw) (i : Int) : roomC = cellV G S0 4 i := rfl
theorem S0_b (t : Nat) (i j : Int) : S0 t i j = 0 ∨ (S0 t i j = -1 ∧ ((t = 1 ∧ (j = 5 ∨ j = 6 ∨ j = 11)) ∨ (t = 2 ∧ j = 0) ∨ t = 3)) := by
  unfold S0
  by_cases e1 : t = 1
  · rw [if_pos e1]
    by_cases e : j = 5 ∨ j = 6 ∨ j = 11
    · rw [if_pos e]; exact Or.inr ⟨rfl, Or.inl ⟨e1, e⟩⟩
    · rw [if_neg e]; exact Or.inl rfl
  · rw [if_neg e1]
    by_cases e2 : t = 2
    · rw [if_pos e2]
      by_cases e : j = 0
      · rw [if_pos e]; exact Or.inr ⟨rfl, Or.inr (Or.inl ⟨e2, e⟩)⟩
      · rw [if_neg e]; exact Or.inl rfl
    · rw [if_neg e2]
      by_cases e3 : t = 3
      · rw [if_pos e3]
        by_cases e : j < 20
        · rw [if_pos e]; exact Or.inr ⟨rfl, Or.inr (Or.inr e3)⟩
        · rw [if_neg e]; exact Or.inl rfl
      · rw [if_neg e3]; exact Or.inl rfl
theorem rgT_0 (ty : FieldType) : rgT ty 0 := by
  unfold rgT
  split
  · exact ⟨by decide, by decide⟩
  · exact ⟨by decide, by decide⟩
  · exact Or.inl rfl
  · trivial
theorem S0_rg (t i q : Nat) : rgT (tyOf t q) (S0 t i q) := by
  rcases S0_b t i q with h | ⟨h, g⟩
  · rw [h]; exact rgT_0 _
  · rw [h]
    have m1 : rgT .int (-1) := ⟨by decide, by decide⟩
    rcases g with ⟨rfl, g⟩ | ⟨rfl, g⟩ | rfl
    · rcases g with g | g | g
      · have e : q = 5 := by omega
        subst e; exact m1
      · have e : q = 6 := by omega
        subst e; exact m1
      · have e : q = 11 := by omega
        subst e; exact m1
    · have e : q = 0 := by omega
      subst e; exact m1
    · exact m1
theorem one_0 {i : Nat} (h : i < 1) : i = 0 := by omega
theorem rep0 (G : Gw) : Rep G S0 (ov (fun _ => none) G.b0 (endL G)) := by
  refine ⟨fun t i h => ?_, fun t i q _ => S0_rg t i q⟩
  have ht := tgC_in h
  match t, ht, h with
  | 0, _, h =>
    rw [one_0 h]
    exact ov_at (k := (tg 0).1) (a := G.b0) (l := endL G) rfl
  | 1, _, h => rw [ad1, ov_at (endL_1 G h), c1_eq G (i : Int)]
  | 2, _, h => rw [ad2, ov_at (endL_2 G h).1, c2_eq]
  | 3, _, h => rw [show ad G 3 (i : Int) = G.b0 + (75 + 2 * i) from rfl, ov_at (endL_2 G h).2, c3_eq G (i : Int)]
  | 4, _, h => rw [ad4, ov_at (endL_4 G h), c4_eq G (i : Int)]
  | 5, _, h =>
    rw [one_0 h]
    exact ov_at (k := (tg 5).1) (a := G.b0) (l := endL G) rfl
  | 6, _, h =>
    rw [one_0 h]
    exact ov_at (k := (tg 6).1) (a := G.b0) (l := endL G) rfl
  | 7, _, h =>
    rw [one_0 h]
    exact ov_at (k := (tg 7).1) (a := G.b0) (l := endL G) rfl
  | 8, _, h =>
    rw [one_0 h]
    exact ov_at (k := (tg 8).1) (a := G.b0) (l := endL G) rfl
  | 9, _, h =>
    rw [one_0 h]
    exact ov_at (k := (tg 9).1) (a := G.b0) (l := endL G) rfl
  | 10, _, h =>
    rw [one_0 h]
    exact ov_at (k := (tg 10).1) (a := G.b0) (l := endL G) rfl
  | 11, _, h =>
    rw [one_0 h]
    exact ov_at (k := (tg 11).1) (a := G.b0) (l := endL G) rfl
  | 12, _, h =>
    rw [one_0 h]
    exact ov_at (k := (tg 12).1) (a := G.b0) (l := endL G) rfl
  | 13, _, h =>
    rw [one_0 h]
    exact ov_at (k := (tg 13).1) (a := G.b0) (l := endL G) rfl
  | 14, _, h =>
    rw [one_0 h]
    exact ov_at (k := (tg 14).1) (a := G.b0) (l := endL G) rfl
  | 15, _, h =>
    rw [one_0 h]
    exact ov_at (k := (tg 15).1) (a := G.b0) (l := endL G) rfl
  | 16, _, h =>
    rw [one_0 h]
    exact ov_at (k := (tg 16).1) (a := G.b0) (l := endL G) rfl
  | 17, _, h =>
    rw [one_0 h]
    exact ov_at (k := (tg 17).1) (a := G.b0) (l := endL G) rfl
  | 18, _, h => exact absurd h (Nat.not_lt_zero i)
  | 19, _, h => exact absurd h (Nat.not_lt_zero i)
  | 20, _, h =>
    rw [one_0 h]
    exact ov_at (k := (tg 20).1) (a := G.b0) (l := endL G) (endL_b G ((tg 20).1 - 124))
  | 21, _, h => exact absurd h (Nat.not_lt_zero i)
  | 22, _, h =>
    rw [one_0 h]
    exact ov_at (k := (tg 22).1) (a := G.b0) (l := endL G) (endL_b G ((tg 22).1 - 124))
  | 23, _, h =>
    rw [one_0 h]
    exact ov_at (k := (tg 23).1) (a := G.b0) (l := endL G) (endL_b G ((tg 23).1 - 124))
  | 24, _, h =>
    rw [one_0 h]
    exact ov_at (k := (tg 24).1) (a := G.b0) (l := endL G) (endL_b G ((tg 24).1 - 124))
  | 25, _, h =>
    rw [one_0 h]
    exact ov_at (k := (tg 25).1) (a := G.b0) (l := endL G) (endL_b G ((tg 25).1 - 124))
  | 26, _, h =>
    rw [one_0 h]
    exact ov_at (k := (tg 26).1) (a := G.b0) (l := endL G) (endL_b G ((tg 26).1 - 124))
  | 27, _, h =>
    rw [one_0 h]
    exact ov_at (k := (tg 27).1) (a := G.b0) (l := endL G) (endL_b G ((tg 27).1 - 124))
  | 28, _, h =>
    rw [one_0 h]
    exact ov_at (k := (tg 28).1) (a := G.b0) (l := endL G) (endL_b G ((tg 28).1 - 124))
  | 29, _, h =>
    rw [one_0 h]
    exact ov_at (k := (tg 29).1) (a := G.b0) (l := endL G) (endL_b G ((tg 29).1 - 124))
  | 30, _, h => exact absurd h (Nat.not_lt_zero i)
  | 31, _, h =>
    rw [one_0 h]
    exact ov_at (k := (tg 31).1) (a := G.b0) (l := endL G) (endL_b G ((tg 31).1 - 124))
  | 32, _, h =>
    rw [one_0 h]
    exact ov_at (k := (tg 32).1) (a := G.b0) (l := endL G) (endL_b G ((tg 32).1 - 124))
  | 33, _, h =>
    rw [one_0 h]
    exact ov_at (k := (tg 33).1) (a := G.b0) (l := endL G) (endL_b G ((tg 33).1 - 124))
  | 34, _, h =>
    rw [one_0 h]
    exact ov_at (k := (tg 34).1) (a := G.b0) (l := endL G) (endL_b G ((tg 34).1 - 124))
  | 35, _, h =>
    rw [one_0 h]
    exact ov_at (k := (tg 35).1) (a := G.b0) (l := endL G) (endL_b G ((tg 35).1 - 124))
  | 36, _, h =>
    rw [one_0 h]
    exact ov_at (k := (tg 36).1) (a := G.b0) (l := endL G) (endL_b G ((tg 36).1 - 124))
  | 37, _, h => exact absurd h (Nat.not_lt_zero i)
  | 38, _, h =>
    rw [one_0 h]
    exact ov_at (k := (tg 38).1) (a := G.b0) (l := endL G) (endL_b G ((tg 38).1 - 124))
  | 39, _, h =>
    rw [one_0 h]
    exact ov_at (k := (tg 39).1) (a := G.b0) (l := endL G) (endL_b G ((tg 39).1 - 124))
  | 40, _, h =>
    rw [one_0 h]
    exact ov_at (k := (tg 40).1) (a := G.b0) (l := endL G) (endL_b G ((tg 40).1 - 124))
  | 41, _, h =>
    rw [one_0 h]
    exact ov_at (k := (tg 41).1) (a := G.b0) (l := endL G) (endL_b G ((tg 41).1 - 124))
  | 42, _, h =>
    rw [one_0 h]
    exact ov_at (k := (tg 42).1) (a := G.b0) (l := endL G) (endL_b G ((tg 42).1 - 124))
  | 43, _, h => exact absurd h (Nat.not_lt_zero i)
  | 44, _, h => exact absurd h (Nat.not_lt_zero i)
  | 45, _, h => exact absurd h (Nat.not_lt_zero i)
  | 46, _, h =>
    rw [one_0 h]
    exact ov_at (k := (tg 46).1) (a := G.b0) (l := endL G) (endL_b G ((tg 46).1 - 124))
  | 47, _, h =>
    rw [one_0 h]
    exact ov_at (k := (tg 47).1) (a := G.b0) (l := endL G) (endL_b G ((tg 47).1 - 124))
  | 48, _, h =>
    rw [one_0 h]
    exact ov_at (k := (tg 48).1) (a := G.b0) (l := endL G) (endL_b G ((tg 48).1 - 124))
  | 49, _, h =>
    rw [one_0 h]
    exact ov_at (k := (tg 49).1) (a := G.b0) (l := endL G) (endL_b G ((tg 49).1 - 124))
  | 50, _, h =>
    rw [one_0 h]
    exact ov_at (k := (tg 50).1) (a := G.b0) (l := endL G) (endL_b G ((tg 50).1 - 124))
  | 51, _, h =>
    rw [one_0 h]
    exact ov_at (k := (tg 51).1) (a := G.b0) (l := endL G) (endL_b G ((tg 51).1 - 124))
  | t + 52, ht, _ => exact absurd ht (by omega)
theorem ci0 : CI S0 := by
  refine ⟨⟨by decide, by decide, by decide⟩, fun i _ _ => ⟨?_, Or.inl rfl, fun _ => ⟨rfl, rfl, rfl, rfl, rfl, rfl, rfl⟩, fun _ => ⟨(show (-1000000 : Int) ≤ 0 ∧ (0 : Int) ≤ 1000000 by decide), (show (-1000000 : Int) ≤ 0 ∧ (0 : Int) ≤ 1000000 by decide)⟩⟩, fun c c0 c1 => ⟨⟨(show (0 : Int) ≤ 0 ∧ (0 : Int) < 4 by decide), (show (-1000000 : Int) ≤ 0 ∧ (0 : Int) ≤ 1000000 by decide), (show (-1000000 : Int) ≤ 0 ∧ (0 : Int) ≤ 1000000 by decide)⟩, Or.inl rfl, fun _ => ⟨rfl, rfl, rfl, rfl, rfl⟩, ?_, ?_⟩, fun c r _ _ r0 r1 => ⟨Or.inl ?_, fun q => absurd rfl q⟩, fun p _ _ h => ?_, fun i _ _ h => ?_, ?_⟩
  · exact ⟨(show (0 : Int) ≤ 0 ∧ (0 : Int) < 4 by decide), (show (-4000000 : Int) ≤ 0 ∧ (0 : Int) ≤ 4000000 by decide), (show (-4000000 : Int) ≤ 0 ∧ (0 : Int) ≤ 4000000 by decide), (show (0 : Int) ≤ 0 ∧ (0 : Int) ≤ 1000 by decide), (show (0 : Int) ≤ 0 ∧ (0 : Int) ≤ 1000 by decide)⟩
  · refine (cntF_none 60 0 (fun q _ _ => ?_)).symm
    have e : ¬ (-1 : Int) = c := by omega
    show decide ((-1 : Int) = c) = false
    simp [e]
  · refine (cntF_none 20 0 (fun q q0 q1 => ?_)).symm
    have e : S0 3 c q = -1 := by
      show (if q < 20 then (-1 : Int) else 0) = -1
      rw [if_pos (by omega)]
    rw [e]
    rfl
  · show (if r < 20 then (-1 : Int) else 0) = -1
    rw [if_pos r1]
  · replace h : bt 0 p = true := h
    rw [bt_zero] at h
    cases h
  · exact absurd (show (0 : Int) = 1 from h) (by decide)
  · have : labC S0 = 0 := cntF_none 60 0 (fun q _ _ => rfl)
    rw [this]
    decide
theorem rr0 : RR S0 S0 := by
  refine ⟨⟨rfl, rfl, rfl⟩, fun i _ _ => ⟨rfl, rfl, rfl, rfl, rfl, rfl⟩, fun i i0 i1 => ?_, fun c c0 c1 => ?_, fun p _ _ => ?_, ⟨fun r r0 r1 => ?_, fun r p _ _ _ _ => ?_⟩, fun i _ _ => ⟨rfl, fun h => absurd (show (0 : Int) = 1 from h) (by decide)⟩⟩
  · exact absurd (show i < 0 from i1) (by omega)
  · exact absurd (show c < 0 from c1) (by omega)
  · show (0 : Int) = b01 (bt 0 p)
    rw [bt_zero]
    rfl
  · exact absurd (show r < 0 from r1) (by omega)
  · show (0 : Int) = b01 (bt 0 p)
    rw [bt_zero]
    rfl
def lawZ (G : Gw) : Po := fun o M' sz' sl' => ∃ o' S', o = cvO G o' ∧ Rep G S' M' ∧ o' = .inl (some (aI 1))
theorem lawZ_1 (G : Gw) (o : Ou) (M : Mm) (sz sl : Nat) (h : lawZ G o M sz sl) : lawQ o M sz sl := by
  obtain ⟨o', S', rfl, _, rfl⟩ := h
  rfl
theorem mainLen {G : Gw} : ([] ++ (hdL G (pf G 60) (cf G 20) (rf G 10) ++ (List.replicate 60 partC ++ chs G 20 ++ List.replicate 10 roomC)) : List va_E).length = 124 := by
  rw [List.nil_append, hd_len, List.length_append, List.length_append, List.length_replicate, List.length_replicate, chs_len]
theorem modLen {G : Gw} : (([] ++ (hdL G (pf G 60) (cf G 20) (rf G 10) ++ (List.replicate 60 partC ++ chs G 20 ++ List.replicate 10 roomC))) ++ modC G (G.b0 + 124) : List va_E).length = 149 := by
  rw [List.length_append, mainLen]
  rfl
theorem law_go {G : Gw} {fr lo : Nat} {Q : Po} (hb : G.b0 + 700 ≤ G.b0 + mm_mxC) (h2 : 20000 ≤ mm_mxS) (h3 : 5 ≤ fr) (h4 : 300 ≤ lo) (h : ∀ sl', sl' ≤ 9000 → Ev G 124 23 [some (.ref G.xa), some (.ref (G.b0 + 0)), some (.ref (G.b0 + 124)), some (.ref (G.b0 + 149)), some (.int (Int32.ofInt 0)), none, none, none] [] (ov (fun _ => none) G.b0 (endL G)) (G.b0 + 150) sl' fr lo Q) : Ev G 124 0 (loEnt 8 [.ref G.xa]) [] (ov (fun _ => none) G.b0 []) (G.b0 + 0) 0 fr lo Q := by
  refine bv_new (a := G.b0) (n := 0) (N := 9) rfl rfl rfl (by omega) (by omega) ?_
  refine ev_run 1 (pc' := 4) (ls' := [some (.ref G.xa), none, none, none, none, none, none, none]) (st' := [.ref (G.b0 + 0), .ref (G.b0 + 0)]) rfl ?_
  refine bv_call (a := G.b0) (n := 0) (m := 124) (B := 5000) (fin := (hdL G (pf G 60) (cf G 20) (rf G 10) ++ (List.replicate 60 partC ++ chs G 20 ++ List.replicate 10 roomC))) (mi := mi6) rfl rfl rfl (Nat.le_of_ble_eq_true rfl) rfl (by omega) (show 2 + 25 ≤ lo from by omega) (Nat.le_of_ble_eq_true rfl) (fun Q' hq => k6 (by omega) (by omega) (by omega) (show 200 ≤ lo - (2 + 25) from by omega) hq) (fun sl1 hs1 => ?_)
  refine ev_run 1 (pc' := 8) (ls' := [some (.ref G.xa), some (.ref (G.b0 + 0)), none, none, none, none, none, none]) (st' := []) rfl ?_
  refine bv_new (a := G.b0) (n := 124) (N := 31) rfl mainLen rfl (by omega) (by omega) ?_
  refine ev_run 1 (pc' := 12) (ls' := [some (.ref G.xa), some (.ref (G.b0 + 0)), none, none, none, none, none, none]) (st' := [.ref (G.b0 + 124), .ref (G.b0 + 124)]) rfl ?_
  refine bv_call (a := G.b0) (n := 124) (m := 25) (B := 3000) (fin := modC G (G.b0 + 124)) (mi := mi7) rfl rfl rfl (Nat.le_of_ble_eq_true rfl) mainLen (by omega) (show 1 + 25 ≤ lo from by omega) (Nat.le_of_ble_eq_true rfl) (fun Q' hq => k7 (by omega) (by omega) (by omega) (show 100 ≤ lo - (1 + 25) from by omega) hq) (fun sl2 hs2 => ?_)
  refine ev_run 2 (pc' := 17) (ls' := [some (.ref G.xa), some (.ref (G.b0 + 0)), some (.ref (G.b0 + 124)), none, none, none, none, none]) (st' := [.int (Int32.ofInt 1)]) rfl ?_
  refine bv_newa (a := G.b0) (n := 149) rfl modLen 1 rfl (by decide) (by omega) (by omega) (by decide) ?_
  refine ev_run 3 (pc' := 23) (ls' := [some (.ref G.xa), some (.ref (G.b0 + 0)), some (.ref (G.b0 + 124)), some (.ref (G.b0 + 149)), some (.int (Int32.ofInt 0)), none, none, none]) (st' := []) rfl ?_
  have z := h (sl2 + 1) (by omega)
  have e : endL G = [] ++ (hdL G (pf G 60) (cf G 20) (rf G 10) ++ (List.replicate 60 partC ++ chs G 20 ++ List.replicate 10 roomC)) ++ modC G (G.b0 + 124) ++ [aryC G 1 1] := by
    unfold endL
    simp only [List.nil_append, List.append_assoc]
  rw [e] at z
  exact z
theorem law_ev : ∀ G : Gw, G.xl ≤ 4608 → Ev G 124 0 (loEnt 8 [.ref G.xa]) [] (fun _ => none) G.b0 0 2048 84000 (lawZ G) := by
  intro G hx
  have hC : mm_mxC = 601024 := rfl
  have hS : mm_mxS = 7293034 := rfl
  have z := law_go (G := G) (fr := 2048) (lo := 84000) (Q := lawZ G) (by omega) (by omega) (by omega) (by omega) (fun sl' hs => by
    have q := law_l (G := G) (k := 0) (Q := fun o _ _ _ => o = .inl (some (aI 1))) (fun _ _ _ => rfl) 512 S0 S0 (G.b0 + 150) sl' 0 none none none ⟨by decide, by decide⟩ (by omega) ci0 (fun _ _ => rfl) rr0 (by omega) (by omega)
    exact q _ 2048 84000 hx (rep0 G) (by decide) (by decide))
  rw [ov_nil] at z
  exact z
