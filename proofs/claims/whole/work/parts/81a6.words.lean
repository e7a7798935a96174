theorem all_dt {α : Type} {f : α → Bool} (k : Nat) : ∀ (n : Nat) (l : List α), l.length ≤ n * k → (∀ j, j < n → ((l.drop (j * k)).take k).all f = true) → l.all f = true := by
  intro n
  induction n with
  | zero => intro l h _; have : l = [] := List.eq_nil_of_length_eq_zero (by omega); rw [this]; rfl
  | succ n ih =>
    intro l h hj
    have h0 := hj 0 (by omega)
    rw [Nat.zero_mul, List.drop_zero] at h0
    have h1 := ih (l.drop k) (by rw [List.length_drop, Nat.succ_mul] at *; omega) (fun j hj2 => by have := hj (j + 1) (by omega); rw [Nat.succ_mul] at this; rw [List.drop_drop, Nat.add_comm k (j * k)]; exact this)
    rw [← List.take_append_drop k l, List.all_append, h0, h1]; rfl
theorem axM_0 : (axMt 0).all (okMb 0) = true := all_dt 24 1 _ (by decide) (fun j hj => match j, hj with | 0, _ => axM_0_0 | (z + 1), h => absurd h (by omega))
theorem axM_1 : (axMt 1).all (okMb 1) = true := all_dt 24 1 _ (by decide) (fun j hj => match j, hj with | 0, _ => axM_1_0 | (z + 1), h => absurd h (by omega))
theorem axM_2 : (axMt 2).all (okMb 2) = true := all_dt 24 2 _ (by decide) (fun j hj => match j, hj with | 0, _ => axM_2_0 | 1, _ => axM_2_1 | (z + 2), h => absurd h (by omega))
theorem axM_3 : (axMt 3).all (okMb 3) = true := all_dt 24 1 _ (by decide) (fun j hj => match j, hj with | 0, _ => axM_3_0 | (z + 1), h => absurd h (by omega))
theorem axM_4 : (axMt 4).all (okMb 4) = true := all_dt 24 1 _ (by decide) (fun j hj => match j, hj with | 0, _ => axM_4_0 | (z + 1), h => absurd h (by omega))
theorem axM_5 : (axMt 5).all (okMb 5) = true := all_dt 24 1 _ (by decide) (fun j hj => match j, hj with | 0, _ => axM_5_0 | (z + 1), h => absurd h (by omega))
theorem axM_6 : (axMt 6).all (okMb 6) = true := all_dt 24 1 _ (by decide) (fun j hj => match j, hj with | 0, _ => axM_6_0 | (z + 1), h => absurd h (by omega))
theorem axM_7 : (axMt 7).all (okMb 7) = true := all_dt 24 1 _ (by decide) (fun j hj => match j, hj with | 0, _ => axM_7_0 | (z + 1), h => absurd h (by omega))
theorem axM_8 : (axMt 8).all (okMb 8) = true := all_dt 24 1 _ (by decide) (fun j hj => match j, hj with | 0, _ => axM_8_0 | (z + 1), h => absurd h (by omega))
theorem axM_9 : (axMt 9).all (okMb 9) = true := all_dt 24 1 _ (by decide) (fun j hj => match j, hj with | 0, _ => axM_9_0 | (z + 1), h => absurd h (by omega))
theorem axM_10 : (axMt 10).all (okMb 10) = true := all_dt 24 1 _ (by decide) (fun j hj => match j, hj with | 0, _ => axM_10_0 | (z + 1), h => absurd h (by omega))
theorem axM_11 : (axMt 11).all (okMb 11) = true := all_dt 24 3 _ (by decide) (fun j hj => match j, hj with | 0, _ => axM_11_0 | 1, _ => axM_11_1 | 2, _ => axM_11_2 | (z + 3), h => absurd h (by omega))
theorem axM_12 : (axMt 12).all (okMb 12) = true := all_dt 24 3 _ (by decide) (fun j hj => match j, hj with | 0, _ => axM_12_0 | 1, _ => axM_12_1 | 2, _ => axM_12_2 | (z + 3), h => absurd h (by omega))
theorem axM_ok (c : Nat) (q : Nat × MEnt × Nat × List Nat) (h : q ∈ axMt c) : okMb c q = true :=
  lt13 (P := fun c => ∀ q ∈ axMt c, okMb c q = true) (fun c hc => List.all_eq_true.mp (match c, hc with | 0, _ => axM_0 | 1, _ => axM_1 | 2, _ => axM_2 | 3, _ => axM_3 | 4, _ => axM_4 | 5, _ => axM_5 | 6, _ => axM_6 | 7, _ => axM_7 | 8, _ => axM_8 | 9, _ => axM_9 | 10, _ => axM_10 | 11, _ => axM_11 | 12, _ => axM_12 | 13, _ => rfl | 14, _ => rfl | (n + 15), h => absurd h (by omega))) (fun n q h => by cases h) c q h
theorem axI_ok (c : Nat) (q : Nat × Nat × Nat) (h : q ∈ axIt c) : okIb c q = true :=
  lt13 (P := fun c => ∀ q ∈ axIt c, okIb c q = true) (fun c hc => List.all_eq_true.mp (all15 (f := fun c => (axIt c).all (okIb c)) (by decide +kernel) c hc)) (fun n q h => by cases h) c q h
theorem axG_ok (c : Nat) (q : Nat × Nat × Nat) (h : q ∈ axGt c) : okGb c q = true :=
  lt13 (P := fun c => ∀ q ∈ axGt c, okGb c q = true) (fun c hc => List.all_eq_true.mp (all15 (f := fun c => (axGt c).all (okGb c)) (by decide +kernel) c hc)) (fun n q h => by cases h) c q h
theorem axK_ok (c : Nat) (q : Nat × Int × Nat) (h : q ∈ axKt c) : okKb c q = true :=
  lt13 (P := fun c => ∀ q ∈ axKt c, okKb c q = true) (fun c hc => List.all_eq_true.mp (all15 (f := fun c => (axKt c).all (okKb c)) (by decide +kernel) c hc)) (fun n q h => by cases h) c q h
theorem axL_ok (c : Nat) (q : Nat × Int × Nat) (h : q ∈ axLt c) : okLb c q = true :=
  lt13 (P := fun c => ∀ q ∈ axLt c, okLb c q = true) (fun c hc => List.all_eq_true.mp (all15 (f := fun c => (axLt c).all (okLb c)) (by decide +kernel) c hc)) (fun n q h => by cases h) c q h
theorem axS_ok (c : Nat) (q : Nat × Nat × Nat) (h : q ∈ axSt c) : okSb c q = true :=
  lt13 (P := fun c => ∀ q ∈ axSt c, okSb c q = true) (fun c hc => List.all_eq_true.mp (all15 (f := fun c => (axSt c).all (okSb c)) (by decide +kernel) c hc)) (fun n q h => by cases h) c q h
theorem axN_ok (c : Nat) (q : Nat × Nat × Nat) (h : q ∈ axNt c) : okNb c q = true :=
  lt13 (P := fun c => ∀ q ∈ axNt c, okNb c q = true) (fun c hc => List.all_eq_true.mp (all15 (f := fun c => (axNt c).all (okNb c)) (by decide +kernel) c hc)) (fun n q h => by cases h) c q h
set_option maxRecDepth 100000 in
theorem vmX0_init : Val mX0_init := ⟨gw_2 (i := 109) rfl rfl, by decide +kernel⟩
set_option maxRecDepth 100000 in
theorem vmX0_mark : Val mX0_mark := ⟨gw_4 (i := 203) rfl rfl, by decide +kernel⟩
set_option maxRecDepth 100000 in
theorem vmX0_many : Val mX0_many := ⟨gw_4 (i := 207) rfl rfl, by decide +kernel⟩
set_option maxRecDepth 100000 in
theorem vmX0_least : Val mX0_least := ⟨gw_4 (i := 211) rfl rfl, by decide +kernel⟩
set_option maxRecDepth 100000 in
theorem vmX0_greatest : Val mX0_greatest := ⟨gw_4 (i := 236) rfl rfl, by decide +kernel⟩
set_option maxRecDepth 100000 in
theorem vmX0_longestRow : Val mX0_longestRow := ⟨gw_4 (i := 215) rfl rfl, by decide +kernel⟩
set_option maxRecDepth 100000 in
theorem vmX1_init : Val mX1_init := ⟨gw_2 (i := 41) rfl rfl, by decide +kernel⟩
set_option maxRecDepth 100000 in
theorem vmX1_fewestParts : Val mX1_fewestParts := ⟨gw_4 (i := 39) rfl rfl, by decide +kernel⟩
set_option maxRecDepth 100000 in
theorem vmX1_leastRooms : Val mX1_leastRooms := ⟨gw_5 (i := 109) rfl rfl, by decide +kernel⟩
set_option maxRecDepth 100000 in
theorem vmX1_partsHold : Val mX1_partsHold := ⟨gw_4 (i := 43) rfl rfl, by decide +kernel⟩
set_option maxRecDepth 100000 in
theorem vmX1_lowestLiving : Val mX1_lowestLiving := ⟨gw_4 (i := 81) rfl rfl, by decide +kernel⟩
set_option maxRecDepth 100000 in
theorem vmX1_seekBest : Val mX1_seekBest := ⟨gw_5 (i := 33) rfl rfl, by decide +kernel⟩
set_option maxRecDepth 100000 in
theorem vmX1_prepareTold : Val mX1_prepareTold := ⟨gw_4 (i := 85) rfl rfl, by decide +kernel⟩
set_option maxRecDepth 100000 in
theorem vmX1_prepare : Val mX1_prepare := ⟨gw_4 (i := 47) rfl rfl, by decide +kernel⟩
set_option maxRecDepth 100000 in
theorem vmX1_takes : Val mX1_takes := ⟨gw_4 (i := 60) rfl rfl, by decide +kernel⟩
set_option maxRecDepth 100000 in
theorem vmX1_place : Val mX1_place := ⟨gw_4 (i := 56) rfl rfl, by decide +kernel⟩
set_option maxRecDepth 100000 in
theorem vmX1_seek : Val mX1_seek := ⟨gw_5 (i := 38) rfl rfl, by decide +kernel⟩
set_option maxRecDepth 100000 in
theorem vmX2_init : Val mX2_init := ⟨gw_1 (i := 93) rfl rfl, by decide +kernel⟩
set_option maxRecDepth 100000 in
theorem vmX2_reads : Val mX2_reads := ⟨gw_3 (i := 13) rfl rfl, by decide +kernel⟩
