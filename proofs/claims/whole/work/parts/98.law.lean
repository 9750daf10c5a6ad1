theorem law_ev : ∀ G : Gw, G.xl ≤ 4608 → Ev G 124 0 (loEnt 8 [.ref G.xa]) [] (fun _ => none) G.b0 0 2048 84000 lawQ := sorry
