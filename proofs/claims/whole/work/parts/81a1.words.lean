theorem axF_ok (c : Nat) (q : Nat × Nat × Nat × Bool × Nat) (h : q ∈ axFt c) : okFb c q = true :=
  lt13 (P := fun c => ∀ q ∈ axFt c, okFb c q = true) (fun c hc => List.all_eq_true.mp (all15 (f := fun c => (axFt c).all (okFb c)) (by decide +kernel) c hc)) (fun n q h => by cases h) c q h
