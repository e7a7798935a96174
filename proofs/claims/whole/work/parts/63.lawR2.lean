section
variable {d : Nat} {sh : List Kd} {σ : Sto} {Q : Option AV → List Kd → Sto → Prop} {t : Nat}
/-- what the reference's reading of a law may change: its head, its fault, how deep it is -/
def FrV (σ σ' : Sto) : Prop := ∀ k i, ¬ (k = 0 ∧ (i = 10 ∨ i = 11 ∨ i = 12)) → σ' k i = σ k i
theorem FrV.rf {σ : Sto} : FrV σ σ := fun _ _ _ => rfl
theorem FrV.tr {a b c : Sto} (h1 : FrV a b) (h2 : FrV b c) : FrV a c := fun k i h => (h2 k i h).trans (h1 k i h)
theorem FrV.up {σ σ' : Sto} {v : Int} (h : FrV σ σ') (i : Int) (hi : i = 10 ∨ i = 11 ∨ i = 12) : FrV σ (up σ' 0 i v) := fun k j h' => by
  rw [show _root_.Jvm.Pilot.@@N@@.up σ' 0 i v k j = σ' k j from by simp only [_root_.Jvm.Pilot.@@N@@.up]; rw [if_neg (by rintro ⟨rfl, rfl⟩; omega)]]; exact h k j h'
theorem FrV.R {σ σ' : Sto} (h : FrV σ σ') (ht : t = 1 ∨ t = 2) : bR t σ' = bR t σ ∧ σ' 0 9 = σ 0 9 := ⟨by funext i; simp only [bR]; rw [h t _ (by omega), h 0 8 (by omega)], h 0 9 (by omega)⟩
theorem FrV.ok {σ σ' : Sto} (h : FrV σ σ') (hr : rdOK t σ) (h0 : 0 ≤ σ' 0 10) (h1 : σ' 0 10 ≤ σ 0 9) : rdOK t σ' := by
  obtain ⟨ht, g0, g1, g2, g3, g4⟩ := hr
  refine ⟨ht, by rw [h 0 8 (by omega)]; exact g0, h0, by rw [h 0 9 (by omega)]; exact h1, by rw [h 0 8 (by omega), h 0 9 (by omega)]; exact g3, fun i => by rw [h t i (by omega)]; exact g4 i⟩
/-- the letters, by their steps -/
def leR (σ : Sto) (k : Int) : Int := if k = 0 then σ 4 97 else if k = 1 then σ 4 98 else if k = 2 then σ 4 120 else if k = 3 then σ 4 121 else σ 4 110
theorem leR_l {c : Int} (h : ¬ ltS c = -1) : leR σ (ltS c) = σ 4 c ∧ 97 ≤ c ∧ c ≤ 121 := by
  unfold ltS at h ⊢
  by_cases h1 : c = 97
  · subst h1; exact ⟨rfl, by omega, by omega⟩
  · by_cases h2 : c = 98
    · subst h2; exact ⟨rfl, by omega, by omega⟩
    · by_cases h5 : c = 110
      · subst h5; exact ⟨rfl, by omega, by omega⟩
      · by_cases h3 : c = 120
        · subst h3; exact ⟨rfl, by omega, by omega⟩
        · by_cases h4 : c = 121
          · subst h4; exact ⟨rfl, by omega, by omega⟩
          · rw [if_neg h1, if_neg h2, if_neg h5, if_neg h3, if_neg h4] at h; exact absurd rfl h
theorem leR_f {σ σ' : Sto} (h : FrV σ σ') : leR σ' = leR σ := by
  funext k
  unfold leR
  rw [h 4 97 (by omega), h 4 98 (by omega), h 4 120 (by omega), h 4 121 (by omega), h 4 110 (by omega)]
/-- a method of the reference keeps to a reader, and answers what its steps make -/
def RP (t : Nat) (d : Nat) (m : MEnt) (D : Int) (xs : Lcs) (P : (Int → Int) → Int → Ps) : Prop := ∀ (σ : Sto) (Q : Option AV → List Kd → Sto → Prop), rdOK t σ → σ 0 11 = -1 → σ 0 12 = D →
  (match P (bR t σ) (σ 0 9) (σ 0 10) with
   | .inl (w, j) => ∀ σ' v, FrV σ σ' → σ' 0 10 = j → σ' 0 11 = -1 → σ' 0 12 = D → mkS (leR σ) w v → Q (some (.inl v)) (shR t) σ'
   | .inr j => ∀ σ' v, FrV σ σ' → σ' 0 11 = j → Q (some (.inl v)) (shR t) σ') →
  Ex d m 0 (some (.inr (.inr (some 0))) :: xs) [] (shR t) σ Q
end
