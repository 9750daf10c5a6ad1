def lawZ (G : Gw) : Po := fun o M' sz' sl' => ∃ o' S', o = cvO G o' ∧ Rep G S' M' ∧ o' = .inl (some (aI 1))
theorem lawZ_1 (G : Gw) (o : Ou) (M : Mm) (sz sl : Nat) (h : lawZ G o M sz sl) : lawQ o M sz sl := by
  obtain ⟨o', S', rfl, _, rfl⟩ := h
  rfl
theorem law_ev : ∀ G : Gw, G.xl ≤ 4608 → Ev G 124 0 (loEnt 8 [.ref G.xa]) [] (fun _ => none) G.b0 0 2048 84000 (lawZ G) := sorry
