-- the reference's reader of a law
section
variable {d : Nat} {sh : List Kd} {σ : Sto} {Q : Option AV → List Kd → Sto → Prop} {t : Nat}
theorem r_amongS {s : Nat} {c k : Int} (hs : 1010 ≤ s ∧ s < 1014) (hk : 0 ≤ k ∧ k < (xsr s).length) (hl : (xsr s).length ≤ 5) : Ex d mX12_isAmong 2 [some (.inr (.inr (some s))), some (.inl c), some (.inl k)] [] sh σ Q = if (xsr s).getD k.toNat 0 = c then Q (some (.inl 1)) sh σ else Ex d mX12_isAmong 2 [some (.inr (.inr (some s))), some (.inl c), some (.inl (k + 1))] [] sh σ Q := by
  obtain ⟨s1, s2⟩ := hs
  obtain ⟨k0, k1⟩ := hk
  have a1 : ¬ ((xsr s).length : Int) ≤ k := by omega
  rw [sX12_isAmong_2]
  simp only [sX12_isAmong_0, sX12_isAmong_1, sX12_isAmong_3, sX12_isAmong_4, sX12_isAmong_7, sX12_isAmong_10, sX12_isAmong_11, sX12_isAmong_12, sX12_isAmong_15, sX12_isAmong_16, sX12_isAmong_19, sX12_isAmong_20, sX12_isAmong_21, sX12_isAmong_24, sX12_isAmong_27, sX12_isAmong_28, up_s, up_k, up_i, clr_n, clr_i, clr_j, clr_r, catS_n, catS_i, catS_j, catS_r, Option.toList_some, Option.toList_none, List.cons_append, List.nil_append, List.singleton_append, true_and, and_true, ne_eq, not_false_eq_true, not_true_eq_false, reduceCtorEq, if_true, if_false, true_or, or_true, false_or, or_false, Nat.reduceLT, Nat.reduceEqDiff, Nat.reduceAdd, Nat.reduceLeDiff, Int.reduceEq, Int.reduceNe, Int.reduceLT, Int.reduceLE, Int.reduceAdd, Int.reduceNeg, Int.reduceSub, Int.reduceMul, a1, s1, s2, k0, k1]
  rw [w32_of ⟨by omega, by omega⟩]
  by_cases h : (xsr s).getD k.toNat 0 = c
  · rw [if_pos h, if_neg]; exact fun q => q h
  · rw [if_neg h, if_pos]; exact h
theorem r_amongE {s : Nat} {c k : Int} (hs : 1010 ≤ s ∧ s < 1014) (hk : ((xsr s).length : Int) ≤ k) : Ex d mX12_isAmong 2 [some (.inr (.inr (some s))), some (.inl c), some (.inl k)] [] sh σ Q = Q (some (.inl 0)) sh σ := by
  obtain ⟨s1, s2⟩ := hs
  rw [sX12_isAmong_2]
  simp only [sX12_isAmong_0, sX12_isAmong_1, sX12_isAmong_3, sX12_isAmong_4, sX12_isAmong_7, sX12_isAmong_10, sX12_isAmong_11, sX12_isAmong_12, sX12_isAmong_15, sX12_isAmong_16, sX12_isAmong_19, sX12_isAmong_20, sX12_isAmong_21, sX12_isAmong_24, sX12_isAmong_27, sX12_isAmong_28, up_s, up_k, up_i, clr_n, clr_i, clr_j, clr_r, catS_n, catS_i, catS_j, catS_r, Option.toList_some, Option.toList_none, List.cons_append, List.nil_append, List.singleton_append, true_and, and_true, ne_eq, not_false_eq_true, not_true_eq_false, reduceCtorEq, if_true, if_false, true_or, or_true, false_or, or_false, Nat.reduceLT, Nat.reduceEqDiff, Nat.reduceAdd, Nat.reduceLeDiff, Int.reduceEq, Int.reduceNe, Int.reduceLT, Int.reduceLE, Int.reduceAdd, Int.reduceNeg, Int.reduceSub, Int.reduceMul, hk, s1, s2]
/-- the letter y -/
theorem r_among1 {c : Int} : Ex d mX12_isAmong 0 [some (.inr (.inr (some 1010))), some (.inl c), none] [] sh σ Q = Q (some (.inl (if c = 121 then 1 else 0))) sh σ := by
  rw [sX12_isAmong_0, sX12_isAmong_1]
  simp only [clr_i]
  rw [r_amongS (by omega) (by decide) (by decide), r_amongE (by omega) (by decide)]
  rw [show (xsr 1010).getD (0 : Int).toNat 0 = 121 from rfl]
  by_cases h1 : c = 121
  · rw [if_pos h1.symm, if_pos h1]
  · rw [if_neg (Ne.symm h1), if_neg h1]
/-- the letters of a law -/
theorem r_among2 {c : Int} : Ex d mX12_isAmong 0 [some (.inr (.inr (some 1011))), some (.inl c), none] [] sh σ Q = Q (some (.inl (if ltS c = -1 then 0 else 1))) sh σ := by
  rw [sX12_isAmong_0, sX12_isAmong_1]
  simp only [clr_i]
  rw [r_amongS (by omega) (by decide) (by decide), r_amongS (by omega) (by decide) (by decide), r_amongS (by omega) (by decide) (by decide), r_amongS (by omega) (by decide) (by decide), r_amongS (by omega) (by decide) (by decide), r_amongE (by omega) (by decide)]
  rw [show (xsr 1011).getD (0 : Int).toNat 0 = 97 from rfl, show (xsr 1011).getD (0 + 1 : Int).toNat 0 = 98 from rfl, show (xsr 1011).getD (0 + 1 + 1 : Int).toNat 0 = 120 from rfl, show (xsr 1011).getD (0 + 1 + 1 + 1 : Int).toNat 0 = 121 from rfl, show (xsr 1011).getD (0 + 1 + 1 + 1 + 1 : Int).toNat 0 = 110 from rfl]
  by_cases h1 : c = 97
  · subst h1; rfl
  · by_cases h2 : c = 98
    · subst h2; rfl
    · by_cases h3 : c = 120
      · subst h3; rfl
      · by_cases h4 : c = 121
        · subst h4; rfl
        · by_cases h5 : c = 110
          · subst h5; rfl
          · rw [if_neg (Ne.symm h1), if_neg (Ne.symm h2), if_neg (Ne.symm h3), if_neg (Ne.symm h4), if_neg (Ne.symm h5)]
            rw [if_pos (by unfold ltS; rw [if_neg h1, if_neg h2, if_neg h5, if_neg h3, if_neg h4])]
end
