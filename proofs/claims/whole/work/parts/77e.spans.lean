section
variable {d : Nat} {sh : List Kd} {σ : Sto} {Q : Option AV → List Kd → Sto → Prop} {t : Nat} {M : Sto} {Ls : List (List Cl)}
/-- on how many of some days -/
def cnD (f : Int → Bool) : Int → Nat → Int
  | _, 0 => 0
  | x, n + 1 => (if f x = true then 1 else 0) + cnD f (x + 1) n
/-- how many days pass before one -/
def fsD (f : Int → Bool) : Int → Nat → Int
  | _, 0 => 0
  | x, n + 1 => if f x = true then 0 else 1 + fsD f (x + 1) n
theorem cnD_r (f : Int → Bool) : ∀ (n : Nat) (x : Int), 0 ≤ cnD f x n ∧ cnD f x n ≤ n := by
  intro n
  induction n with
  | zero => intro x; simp [cnD]
  | succ n ih =>
    intro x
    have := ih (x + 1)
    simp only [cnD]
    split <;> omega
theorem fsD_r (f : Int → Bool) : ∀ (n : Nat) (x : Int), 0 ≤ fsD f x n ∧ fsD f x n ≤ n := by
  intro n
  induction n with
  | zero => intro x; simp [fsD]
  | succ n ih =>
    intro x
    have := ih (x + 1)
    simp only [fsD]
    split <;> omega
theorem cnD_add (f : Int → Bool) : ∀ (a : Nat) (x : Int) (b : Nat), cnD f x (a + b) = cnD f x a + cnD f (x + a) b := by
  intro a
  induction a with
  | zero => intro x b; simp [cnD]
  | succ a ih =>
    intro x b
    rw [show a + 1 + b = (a + b) + 1 by omega]
    simp only [cnD]
    rw [ih, show x + 1 + (a : Int) = x + ((a + 1 : Nat) : Int) by omega]
    omega
theorem cnD_const (f : Int → Bool) (c : Bool) : ∀ (n : Nat) (x : Int), (∀ j : Int, 0 ≤ j → j < n → f (x + j) = c) → cnD f x n = (if c = true then (n : Int) else 0) := by
  intro n
  induction n with
  | zero => intro x h; simp [cnD]
  | succ n ih =>
    intro x h
    simp only [cnD]
    have h0 := h 0 (by omega) (by omega)
    rw [Int.add_zero] at h0
    rw [ih (x + 1) (fun j j0 j1 => by rw [show x + 1 + j = x + (1 + j) by omega]; exact h (1 + j) (by omega) (by omega)), h0]
    split <;> omega
theorem fsD_skip (f : Int → Bool) : ∀ (a : Nat) (x : Int) (n : Nat), a ≤ n → (∀ j : Int, 0 ≤ j → j < a → f (x + j) = false) → fsD f x n = a + fsD f (x + a) (n - a) := by
  intro a
  induction a with
  | zero => intro x n _ _; simp
  | succ a ih =>
    intro x n hn h
    obtain ⟨n, rfl⟩ : ∃ k, n = k + 1 := ⟨n - 1, by omega⟩
    have h0 := h 0 (by omega) (by omega)
    rw [Int.add_zero] at h0
    simp only [fsD]
    rw [if_neg (by rw [h0]; decide), ih (x + 1) n (by omega) (fun j j0 j1 => by rw [show x + 1 + j = x + (1 + j) by omega]; exact h (1 + j) (by omega) (by omega)), show x + 1 + (a : Int) = x + ((a + 1 : Nat) : Int) by omega, show n + 1 - (a + 1) = n - a by omega]
    omega
theorem fsD_cg {f g : Int → Bool} : ∀ (n : Nat) (x : Int), (∀ j : Int, 0 ≤ j → j < n → f (x + j) = g (x + j)) → fsD f x n = fsD g x n := by
  intro n
  induction n with
  | zero => intro x _; rfl
  | succ n ih =>
    intro x h
    have h0 := h 0 (by omega) (by omega)
    rw [Int.add_zero] at h0
    simp only [fsD]
    rw [h0, ih (x + 1) (fun j j0 j1 => by rw [show x + 1 + j = x + (1 + j) by omega]; exact h (1 + j) (by omega) (by omega))]
theorem C_steadyFrom {a b k : Int} {m : Nat} (hm : 3 ≤ m) (r : RepC σ M Ls) (a0 : 0 ≤ a ∧ a < M 0 0) (b0 : 0 ≤ b ∧ b < M 0 0) (hk : 0 ≤ k ∧ k ≤ 1000) :
    Ex m mX6_steadyFrom 0 [some (.inr (.inr (some 14))), some (.inl a), some (.inl b), some (.inl k)] [] shC σ Q = Q (some (.inl (stD (lwO Ls (M 0 3)) (M 1 a) (M 1 b) (M 0 2 + k)))) shC σ := by
  obtain ⟨d, rfl⟩ : ∃ d, m = d + 3 := ⟨m - 3, by omega⟩
  have w := r.wf.sc
  have s := r.sc
  have ea := (r.ar a0.1 a0.2).1
  have eb := (r.ar b0.1 b0.2).1
  have a1 : a < 6 := by omega
  have b1 : b < 6 := by omega
  have e1 : w32 (M 0 2 + k) = M 0 2 + k := w32_of ⟨by omega, by omega⟩
  simp only [sX6_steadyFrom_0, sX6_steadyFrom_1, sX6_steadyFrom_4, sX6_steadyFrom_5, sX6_steadyFrom_8, sX6_steadyFrom_11, sX6_steadyFrom_12, sX6_steadyFrom_13, sX6_steadyFrom_14, sX6_steadyFrom_17, sX6_steadyFrom_20, sX6_steadyFrom_21, sX6_steadyFrom_22, sX6_steadyFrom_23, sX6_steadyFrom_26, sX6_steadyFrom_29, sX6_steadyFrom_30, sX6_steadyFrom_31, sX6_steadyFrom_34, up_s, up_k, up_i, clr_n, clr_i, clr_j, clr_r, catS_n, catS_i, catS_j, catS_r, Option.toList_some, Option.toList_none, List.cons_append, List.nil_append, List.singleton_append, true_and, and_true, ne_eq, not_false_eq_true, not_true_eq_false, reduceCtorEq, if_true, if_false, true_or, or_true, false_or, or_false, Nat.reduceLT, Nat.reduceEqDiff, Nat.reduceAdd, Nat.reduceLeDiff, Int.reduceEq, Int.reduceNe, Int.reduceLT, Int.reduceLE, Int.reduceAdd, Int.reduceNeg, Int.reduceSub, Int.reduceMul, hC_0_0, hC_0_1, hC_0_2, hC_0_3, hC_0_4, hC_0_5, hC_0_6, hC_0_7, hC_0_8, hC_0_9, hC_0_10, hC_0_11, hC_0_12, hC_0_13, hC_0_14, hC_0_15, hC_0_16, hC_1_0, hC_1_1, hC_1_2, hC_1_3, hC_1_4, hC_1_5, hC_2_0, hC_3_0, hC_3_1, hC_3_2, hC_3_3, hC_3_4, hC_3_5, hC_3_6, hC_3_7, hC_3_8, hC_3_9, hC_3_10, hC_3_11, hC_3_12, hC_4_0, hC_5_0, hC_6_0, hC_7_0, hC_8_0, hC_9_0, hC_9_1, hC_9_2, hC_10_0, hC_10_1, hC_10_2, hC_10_3, hC_10_4, hC_10_5, hC_10_6, hC_10_7, hC_10_8, hC_11_0, hC_12_0, hC_13_0, hC_14_0, hC_14_1, hC_14_2, hC_14_3, hC_14_4, hC_14_5, hC_14_6, hC_14_7, hC_14_8, hC_14_9, hC_14_10, hC_14_11, hC_14_12, hC_14_13, hC_14_14, hC_14_15, hC_14_16, hC_14_17, hC_14_18, hC_14_19, hC_14_20, hC_14_21, hC_14_22, hC_14_23, hC_15_0, hC_16_0, hC_17_0, hC_18_0, hC_18_1, hC_18_2, hC_18_3, hC_18_4, hC_19_0, hC_20_0, hC_20_1, hC_20_2, hC_20_3, hC_20_4, hC_20_5, hC_20_6, hC_20_7, hC_20_8, hC_21_0, hC_22_0, hC_23_0, hC_24_0, hC_24_1, hC_24_2, hC_24_3, hC_24_4, hC_24_5, hC_24_6, hC_24_7, hC_24_8, hC_25_0, hC_26_0, hC_27_0, hC_28_0, hC_28_1, hC_28_2, hC_28_3, hC_28_4, hC_28_5, hC_28_6, hC_28_7, hC_28_8, hC_29_0, hC_30_0, hC_31_0, hC_32_0, hC_32_1, hC_32_2, hC_32_3, hC_32_4, hC_32_5, hC_32_6, hC_32_7, hC_32_8, hC_33_0, hC_34_0, hC_35_0, hC_36_0, hC_36_1, hC_36_2, hC_36_3, hC_36_4, hC_36_5, hC_36_6, hC_36_7, hC_36_8, hC_37_0, hC_38_0, hC_39_0, hC_39_1, hC_39_2, hC_39_3, hC_39_4, hC_39_5, hC_39_6, hC_39_7, hC_39_8, hC_40_0, hC_41_0, hC_42_0, hC_43_0, hC_44_0, hC_45_0, hC_45_1, hC_45_2, hC_45_3, hC_45_4, hC_45_5, hC_46_0, hC_47_0, hC_47_1, hC_47_2, hC_47_3, hC_47_4, hC_47_5, hC_47_6, hC_47_7, hC_47_8, hC_47_9, hC_47_10, hC_47_11, hC_47_12, hC_47_13, hC_48_0, hC_49_0, hC_50_0, hC_51_0, hC_52_0, hC_52_1, hC_52_2, hC_52_3, hC_52_4, hC_52_5, hC_52_6, hC_52_7, hC_52_8, hC_52_9, hC_52_10, hC_52_11, hC_52_12, hC_52_13, hC_53_0, hC_54_0, hC_55_0, hC_56_0, hC_57_0, hC_58_0, hC_58_1, hC_58_2, hC_59_0, a0.1, b0.1, a1, b1, ea, eb, s.2.2.1, e1, c_steady (show 2 ≤ d + 2 by omega) r.lw (r.wf.pe a0.1 a0.2).1 (r.wf.pe b0.1 b0.2).1 (show okD (M 0 2 + k) from ⟨by omega, by omega⟩)]
  rw [s.2.2.2]
theorem C_daysAtOdds {a b span : Int} {m : Nat} (hm : 4 ≤ m) (r : RepC σ M Ls) (a0 : 0 ≤ a ∧ a < M 0 0) (b0 : 0 ≤ b ∧ b < M 0 0) (hs : 0 ≤ span ∧ span ≤ 720)
    (hQ : ∀ σ', RepC σ' M Ls → FrO σ σ' → Q (some (.inl (cnD (od M Ls a b) (M 0 2) span.toNat))) shC σ') :
    Ex m mX6_daysAtOdds 0 [some (.inr (.inr (some 14))), some (.inl a), some (.inl b), some (.inl span), none, none, none] [] shC σ Q := by
  obtain ⟨d, rfl⟩ : ∃ d, m = d + 4 := ⟨m - 4, by omega⟩
  have w := r.wf.sc
  have key : ∀ (f : Nat) (τ : Sto) (k many : Int) (x6 : Option AV), span - k ≤ f → 0 ≤ k → k ≤ 1000 + 1000 → RepC τ M Ls → FrO σ τ → 0 ≤ many → many + (span - k) ≤ 720 →
      (∀ σ', RepC σ' M Ls → FrO σ σ' → Q (some (.inl (many + cnD (od M Ls a b) (M 0 2 + k) (span - k).toNat))) shC σ') →
      Ex (d + 4) mX6_daysAtOdds 6 [some (.inr (.inr (some 14))), some (.inl a), some (.inl b), some (.inl span), some (.inl many), some (.inl k), x6] [] shC τ Q := by
    intro f
    induction f with
    | zero =>
      intro τ k many x6 hf k0 k2 r f0 m0 m1 hQ
      have c : span ≤ k := by omega
      have := hQ τ r f0
      rw [show (span - k).toNat = 0 by omega] at this
      simp only [cnD, Int.add_zero] at this
      rw [sX6_daysAtOdds_6]
      simp only [sX6_daysAtOdds_0, sX6_daysAtOdds_1, sX6_daysAtOdds_3, sX6_daysAtOdds_4, sX6_daysAtOdds_8, sX6_daysAtOdds_9, sX6_daysAtOdds_12, sX6_daysAtOdds_13, sX6_daysAtOdds_14, sX6_daysAtOdds_15, sX6_daysAtOdds_16, sX6_daysAtOdds_18, sX6_daysAtOdds_21, sX6_daysAtOdds_24, sX6_daysAtOdds_26, sX6_daysAtOdds_28, sX6_daysAtOdds_29, sX6_daysAtOdds_30, sX6_daysAtOdds_31, sX6_daysAtOdds_32, sX6_daysAtOdds_35, sX6_daysAtOdds_38, sX6_daysAtOdds_40, sX6_daysAtOdds_41, sX6_daysAtOdds_44, sX6_daysAtOdds_47, sX6_daysAtOdds_49, sX6_daysAtOdds_50, sX6_daysAtOdds_52, sX6_daysAtOdds_53, sX6_daysAtOdds_56, sX6_daysAtOdds_59, sX6_daysAtOdds_60, sX6_daysAtOdds_61, sX6_daysAtOdds_63, sX6_daysAtOdds_65, sX6_daysAtOdds_67, sX6_daysAtOdds_68, sX6_daysAtOdds_70, sX6_daysAtOdds_73, sX6_daysAtOdds_75, up_s, up_k, up_i, clr_n, clr_i, clr_j, clr_r, catS_n, catS_i, catS_j, catS_r, Option.toList_some, Option.toList_none, List.cons_append, List.nil_append, List.singleton_append, true_and, and_true, ne_eq, not_false_eq_true, not_true_eq_false, reduceCtorEq, if_true, if_false, true_or, or_true, false_or, or_false, Nat.reduceLT, Nat.reduceEqDiff, Nat.reduceAdd, Nat.reduceLeDiff, Int.reduceEq, Int.reduceNe, Int.reduceLT, Int.reduceLE, Int.reduceAdd, Int.reduceNeg, Int.reduceSub, Int.reduceMul, c]
      exact this
    | succ f ih =>
      intro τ k many x6 hf k0 k2 r f0 m0 m1 hQ
      by_cases c : span ≤ k
      · have := hQ τ r f0
        rw [show (span - k).toNat = 0 by omega] at this
        simp only [cnD, Int.add_zero] at this
        rw [sX6_daysAtOdds_6]
        simp only [sX6_daysAtOdds_0, sX6_daysAtOdds_1, sX6_daysAtOdds_3, sX6_daysAtOdds_4, sX6_daysAtOdds_8, sX6_daysAtOdds_9, sX6_daysAtOdds_12, sX6_daysAtOdds_13, sX6_daysAtOdds_14, sX6_daysAtOdds_15, sX6_daysAtOdds_16, sX6_daysAtOdds_18, sX6_daysAtOdds_21, sX6_daysAtOdds_24, sX6_daysAtOdds_26, sX6_daysAtOdds_28, sX6_daysAtOdds_29, sX6_daysAtOdds_30, sX6_daysAtOdds_31, sX6_daysAtOdds_32, sX6_daysAtOdds_35, sX6_daysAtOdds_38, sX6_daysAtOdds_40, sX6_daysAtOdds_41, sX6_daysAtOdds_44, sX6_daysAtOdds_47, sX6_daysAtOdds_49, sX6_daysAtOdds_50, sX6_daysAtOdds_52, sX6_daysAtOdds_53, sX6_daysAtOdds_56, sX6_daysAtOdds_59, sX6_daysAtOdds_60, sX6_daysAtOdds_61, sX6_daysAtOdds_63, sX6_daysAtOdds_65, sX6_daysAtOdds_67, sX6_daysAtOdds_68, sX6_daysAtOdds_70, sX6_daysAtOdds_73, sX6_daysAtOdds_75, up_s, up_k, up_i, clr_n, clr_i, clr_j, clr_r, catS_n, catS_i, catS_j, catS_r, Option.toList_some, Option.toList_none, List.cons_append, List.nil_append, List.singleton_append, true_and, and_true, ne_eq, not_false_eq_true, not_true_eq_false, reduceCtorEq, if_true, if_false, true_or, or_true, false_or, or_false, Nat.reduceLT, Nat.reduceEqDiff, Nat.reduceAdd, Nat.reduceLeDiff, Int.reduceEq, Int.reduceNe, Int.reduceLT, Int.reduceLE, Int.reduceAdd, Int.reduceNeg, Int.reduceSub, Int.reduceMul, c]
        exact this
      · have s := r.sc
        have e1 : w32 (M 0 2 + k) = M 0 2 + k := w32_of ⟨by omega, by omega⟩
        have sr := stD_r (lwO Ls (M 0 3)) (M 1 a) (M 1 b) (M 0 2 + k)
        have e2 : w32 (span - k) = span - k := w32_of ⟨by omega, by omega⟩
        rw [sX6_daysAtOdds_6]
        simp only [sX6_daysAtOdds_0, sX6_daysAtOdds_1, sX6_daysAtOdds_3, sX6_daysAtOdds_4, sX6_daysAtOdds_8, sX6_daysAtOdds_9, sX6_daysAtOdds_12, sX6_daysAtOdds_13, sX6_daysAtOdds_14, sX6_daysAtOdds_15, sX6_daysAtOdds_16, sX6_daysAtOdds_18, sX6_daysAtOdds_21, sX6_daysAtOdds_24, sX6_daysAtOdds_26, sX6_daysAtOdds_28, sX6_daysAtOdds_29, sX6_daysAtOdds_30, sX6_daysAtOdds_31, sX6_daysAtOdds_32, sX6_daysAtOdds_35, sX6_daysAtOdds_38, sX6_daysAtOdds_40, sX6_daysAtOdds_41, sX6_daysAtOdds_44, sX6_daysAtOdds_47, sX6_daysAtOdds_49, sX6_daysAtOdds_50, sX6_daysAtOdds_52, sX6_daysAtOdds_53, sX6_daysAtOdds_56, sX6_daysAtOdds_59, sX6_daysAtOdds_60, sX6_daysAtOdds_61, sX6_daysAtOdds_63, sX6_daysAtOdds_65, sX6_daysAtOdds_67, sX6_daysAtOdds_68, sX6_daysAtOdds_70, sX6_daysAtOdds_73, sX6_daysAtOdds_75, up_s, up_k, up_i, clr_n, clr_i, clr_j, clr_r, catS_n, catS_i, catS_j, catS_r, Option.toList_some, Option.toList_none, List.cons_append, List.nil_append, List.singleton_append, true_and, and_true, ne_eq, not_false_eq_true, not_true_eq_false, reduceCtorEq, if_true, if_false, true_or, or_true, false_or, or_false, Nat.reduceLT, Nat.reduceEqDiff, Nat.reduceAdd, Nat.reduceLeDiff, Int.reduceEq, Int.reduceNe, Int.reduceLT, Int.reduceLE, Int.reduceAdd, Int.reduceNeg, Int.reduceSub, Int.reduceMul, hC_0_0, hC_0_1, hC_0_2, hC_0_3, hC_0_4, hC_0_5, hC_0_6, hC_0_7, hC_0_8, hC_0_9, hC_0_10, hC_0_11, hC_0_12, hC_0_13, hC_0_14, hC_0_15, hC_0_16, hC_1_0, hC_1_1, hC_1_2, hC_1_3, hC_1_4, hC_1_5, hC_2_0, hC_3_0, hC_3_1, hC_3_2, hC_3_3, hC_3_4, hC_3_5, hC_3_6, hC_3_7, hC_3_8, hC_3_9, hC_3_10, hC_3_11, hC_3_12, hC_4_0, hC_5_0, hC_6_0, hC_7_0, hC_8_0, hC_9_0, hC_9_1, hC_9_2, hC_10_0, hC_10_1, hC_10_2, hC_10_3, hC_10_4, hC_10_5, hC_10_6, hC_10_7, hC_10_8, hC_11_0, hC_12_0, hC_13_0, hC_14_0, hC_14_1, hC_14_2, hC_14_3, hC_14_4, hC_14_5, hC_14_6, hC_14_7, hC_14_8, hC_14_9, hC_14_10, hC_14_11, hC_14_12, hC_14_13, hC_14_14, hC_14_15, hC_14_16, hC_14_17, hC_14_18, hC_14_19, hC_14_20, hC_14_21, hC_14_22, hC_14_23, hC_15_0, hC_16_0, hC_17_0, hC_18_0, hC_18_1, hC_18_2, hC_18_3, hC_18_4, hC_19_0, hC_20_0, hC_20_1, hC_20_2, hC_20_3, hC_20_4, hC_20_5, hC_20_6, hC_20_7, hC_20_8, hC_21_0, hC_22_0, hC_23_0, hC_24_0, hC_24_1, hC_24_2, hC_24_3, hC_24_4, hC_24_5, hC_24_6, hC_24_7, hC_24_8, hC_25_0, hC_26_0, hC_27_0, hC_28_0, hC_28_1, hC_28_2, hC_28_3, hC_28_4, hC_28_5, hC_28_6, hC_28_7, hC_28_8, hC_29_0, hC_30_0, hC_31_0, hC_32_0, hC_32_1, hC_32_2, hC_32_3, hC_32_4, hC_32_5, hC_32_6, hC_32_7, hC_32_8, hC_33_0, hC_34_0, hC_35_0, hC_36_0, hC_36_1, hC_36_2, hC_36_3, hC_36_4, hC_36_5, hC_36_6, hC_36_7, hC_36_8, hC_37_0, hC_38_0, hC_39_0, hC_39_1, hC_39_2, hC_39_3, hC_39_4, hC_39_5, hC_39_6, hC_39_7, hC_39_8, hC_40_0, hC_41_0, hC_42_0, hC_43_0, hC_44_0, hC_45_0, hC_45_1, hC_45_2, hC_45_3, hC_45_4, hC_45_5, hC_46_0, hC_47_0, hC_47_1, hC_47_2, hC_47_3, hC_47_4, hC_47_5, hC_47_6, hC_47_7, hC_47_8, hC_47_9, hC_47_10, hC_47_11, hC_47_12, hC_47_13, hC_48_0, hC_49_0, hC_50_0, hC_51_0, hC_52_0, hC_52_1, hC_52_2, hC_52_3, hC_52_4, hC_52_5, hC_52_6, hC_52_7, hC_52_8, hC_52_9, hC_52_10, hC_52_11, hC_52_12, hC_52_13, hC_53_0, hC_54_0, hC_55_0, hC_56_0, hC_57_0, hC_58_0, hC_58_1, hC_58_2, hC_59_0, c, C_steadyFrom (show 3 ≤ d + 3 by omega) r a0 b0 (show 0 ≤ k ∧ k ≤ 1000 by omega), c_max, s.2.2.1, e1]
        refine C_od (by omega) r a0 b0 (show okD (M 0 2 + k) from ⟨by omega, by omega⟩) ?_
        intro τ' r' f'
        have st : ∀ j : Int, 0 ≤ j → j < stD (lwO Ls (M 0 3)) (M 1 a) (M 1 b) (M 0 2 + k) → od M Ls a b (M 0 2 + k + j) = od M Ls a b (M 0 2 + k) := fun j j0 j1 => clB_steady _ j0 j1
        generalize stD (lwO Ls (M 0 3)) (M 1 a) (M 1 b) (M 0 2 + k) = z at *
        have e3 : max 1 z = z := by omega
        have e4 : w32 (k + z) = k + z := w32_of ⟨by omega, by omega⟩
        have fin : ∀ v, v = (if od M Ls a b (M 0 2 + k) = true then min z (span - k) else 0) → Ex (d + 4) mX6_daysAtOdds 6 [some (.inr (.inr (some 14))), some (.inl a), some (.inl b), some (.inl span), some (.inl (many + v)), some (.inl (k + z)), some (.inl z)] [] shC τ' Q := by
          intro v hv
          have hv2 : 0 ≤ v ∧ v ≤ min z (span - k) := by rw [hv]; split <;> omega
          refine ih τ' (k + z) (many + v) (some (.inl z)) (by omega) (by omega) (by omega) r' (f0.tr f') (by omega) (by omega) ?_
          intro σ2 r2 f2
          have := hQ σ2 r2 f2
          have e5 : cnD (od M Ls a b) (M 0 2 + k) (span - k).toNat = v + cnD (od M Ls a b) (M 0 2 + (k + z)) (span - (k + z)).toNat := by
            by_cases c2 : k + z ≤ span
            · rw [show (span - k).toNat = z.toNat + (span - (k + z)).toNat by omega, cnD_add, cnD_const _ (od M Ls a b (M 0 2 + k)) z.toNat _ (fun j j0 j1 => st j j0 (by omega)), hv, show M 0 2 + k + (z.toNat : Int) = M 0 2 + (k + z) by omega, show min z (span - k) = z by omega, show (z.toNat : Int) = z by omega]
            · rw [show (span - (k + z)).toNat = 0 by omega, cnD_const _ (od M Ls a b (M 0 2 + k)) (span - k).toNat _ (fun j j0 j1 => st j j0 (by omega)), hv, show min z (span - k) = span - k by omega, show ((span - k).toNat : Int) = span - k by omega]
              simp only [cnD, Int.add_zero]
          rw [e5, ← Int.add_assoc] at this
          exact this
        by_cases o : od M Ls a b (M 0 2 + k) = true
        · have e6 : w32 (many + min z (span - k)) = many + min z (span - k) := w32_of ⟨by omega, by omega⟩
          rw [bz_t o]
          simp only [sX6_daysAtOdds_0, sX6_daysAtOdds_1, sX6_daysAtOdds_3, sX6_daysAtOdds_4, sX6_daysAtOdds_8, sX6_daysAtOdds_9, sX6_daysAtOdds_12, sX6_daysAtOdds_13, sX6_daysAtOdds_14, sX6_daysAtOdds_15, sX6_daysAtOdds_16, sX6_daysAtOdds_18, sX6_daysAtOdds_21, sX6_daysAtOdds_24, sX6_daysAtOdds_26, sX6_daysAtOdds_28, sX6_daysAtOdds_29, sX6_daysAtOdds_30, sX6_daysAtOdds_31, sX6_daysAtOdds_32, sX6_daysAtOdds_35, sX6_daysAtOdds_38, sX6_daysAtOdds_40, sX6_daysAtOdds_41, sX6_daysAtOdds_44, sX6_daysAtOdds_47, sX6_daysAtOdds_49, sX6_daysAtOdds_50, sX6_daysAtOdds_52, sX6_daysAtOdds_53, sX6_daysAtOdds_56, sX6_daysAtOdds_59, sX6_daysAtOdds_60, sX6_daysAtOdds_61, sX6_daysAtOdds_63, sX6_daysAtOdds_65, sX6_daysAtOdds_67, sX6_daysAtOdds_68, sX6_daysAtOdds_70, sX6_daysAtOdds_73, sX6_daysAtOdds_75, up_s, up_k, up_i, clr_n, clr_i, clr_j, clr_r, catS_n, catS_i, catS_j, catS_r, Option.toList_some, Option.toList_none, List.cons_append, List.nil_append, List.singleton_append, true_and, and_true, ne_eq, not_false_eq_true, not_true_eq_false, reduceCtorEq, if_true, if_false, true_or, or_true, false_or, or_false, Nat.reduceLT, Nat.reduceEqDiff, Nat.reduceAdd, Nat.reduceLeDiff, Int.reduceEq, Int.reduceNe, Int.reduceLT, Int.reduceLE, Int.reduceAdd, Int.reduceNeg, Int.reduceSub, Int.reduceMul, hC_0_0, hC_0_1, hC_0_2, hC_0_3, hC_0_4, hC_0_5, hC_0_6, hC_0_7, hC_0_8, hC_0_9, hC_0_10, hC_0_11, hC_0_12, hC_0_13, hC_0_14, hC_0_15, hC_0_16, hC_1_0, hC_1_1, hC_1_2, hC_1_3, hC_1_4, hC_1_5, hC_2_0, hC_3_0, hC_3_1, hC_3_2, hC_3_3, hC_3_4, hC_3_5, hC_3_6, hC_3_7, hC_3_8, hC_3_9, hC_3_10, hC_3_11, hC_3_12, hC_4_0, hC_5_0, hC_6_0, hC_7_0, hC_8_0, hC_9_0, hC_9_1, hC_9_2, hC_10_0, hC_10_1, hC_10_2, hC_10_3, hC_10_4, hC_10_5, hC_10_6, hC_10_7, hC_10_8, hC_11_0, hC_12_0, hC_13_0, hC_14_0, hC_14_1, hC_14_2, hC_14_3, hC_14_4, hC_14_5, hC_14_6, hC_14_7, hC_14_8, hC_14_9, hC_14_10, hC_14_11, hC_14_12, hC_14_13, hC_14_14, hC_14_15, hC_14_16, hC_14_17, hC_14_18, hC_14_19, hC_14_20, hC_14_21, hC_14_22, hC_14_23, hC_15_0, hC_16_0, hC_17_0, hC_18_0, hC_18_1, hC_18_2, hC_18_3, hC_18_4, hC_19_0, hC_20_0, hC_20_1, hC_20_2, hC_20_3, hC_20_4, hC_20_5, hC_20_6, hC_20_7, hC_20_8, hC_21_0, hC_22_0, hC_23_0, hC_24_0, hC_24_1, hC_24_2, hC_24_3, hC_24_4, hC_24_5, hC_24_6, hC_24_7, hC_24_8, hC_25_0, hC_26_0, hC_27_0, hC_28_0, hC_28_1, hC_28_2, hC_28_3, hC_28_4, hC_28_5, hC_28_6, hC_28_7, hC_28_8, hC_29_0, hC_30_0, hC_31_0, hC_32_0, hC_32_1, hC_32_2, hC_32_3, hC_32_4, hC_32_5, hC_32_6, hC_32_7, hC_32_8, hC_33_0, hC_34_0, hC_35_0, hC_36_0, hC_36_1, hC_36_2, hC_36_3, hC_36_4, hC_36_5, hC_36_6, hC_36_7, hC_36_8, hC_37_0, hC_38_0, hC_39_0, hC_39_1, hC_39_2, hC_39_3, hC_39_4, hC_39_5, hC_39_6, hC_39_7, hC_39_8, hC_40_0, hC_41_0, hC_42_0, hC_43_0, hC_44_0, hC_45_0, hC_45_1, hC_45_2, hC_45_3, hC_45_4, hC_45_5, hC_46_0, hC_47_0, hC_47_1, hC_47_2, hC_47_3, hC_47_4, hC_47_5, hC_47_6, hC_47_7, hC_47_8, hC_47_9, hC_47_10, hC_47_11, hC_47_12, hC_47_13, hC_48_0, hC_49_0, hC_50_0, hC_51_0, hC_52_0, hC_52_1, hC_52_2, hC_52_3, hC_52_4, hC_52_5, hC_52_6, hC_52_7, hC_52_8, hC_52_9, hC_52_10, hC_52_11, hC_52_12, hC_52_13, hC_53_0, hC_54_0, hC_55_0, hC_56_0, hC_57_0, hC_58_0, hC_58_1, hC_58_2, hC_59_0, c_min, e2, e3, e4, e6]
          exact fin _ (by rw [if_pos o])
        · have e6 : w32 (many + 0) = many + 0 := w32_of ⟨by omega, by omega⟩
          rw [bz_f o]
          simp only [sX6_daysAtOdds_0, sX6_daysAtOdds_1, sX6_daysAtOdds_3, sX6_daysAtOdds_4, sX6_daysAtOdds_8, sX6_daysAtOdds_9, sX6_daysAtOdds_12, sX6_daysAtOdds_13, sX6_daysAtOdds_14, sX6_daysAtOdds_15, sX6_daysAtOdds_16, sX6_daysAtOdds_18, sX6_daysAtOdds_21, sX6_daysAtOdds_24, sX6_daysAtOdds_26, sX6_daysAtOdds_28, sX6_daysAtOdds_29, sX6_daysAtOdds_30, sX6_daysAtOdds_31, sX6_daysAtOdds_32, sX6_daysAtOdds_35, sX6_daysAtOdds_38, sX6_daysAtOdds_40, sX6_daysAtOdds_41, sX6_daysAtOdds_44, sX6_daysAtOdds_47, sX6_daysAtOdds_49, sX6_daysAtOdds_50, sX6_daysAtOdds_52, sX6_daysAtOdds_53, sX6_daysAtOdds_56, sX6_daysAtOdds_59, sX6_daysAtOdds_60, sX6_daysAtOdds_61, sX6_daysAtOdds_63, sX6_daysAtOdds_65, sX6_daysAtOdds_67, sX6_daysAtOdds_68, sX6_daysAtOdds_70, sX6_daysAtOdds_73, sX6_daysAtOdds_75, up_s, up_k, up_i, clr_n, clr_i, clr_j, clr_r, catS_n, catS_i, catS_j, catS_r, Option.toList_some, Option.toList_none, List.cons_append, List.nil_append, List.singleton_append, true_and, and_true, ne_eq, not_false_eq_true, not_true_eq_false, reduceCtorEq, if_true, if_false, true_or, or_true, false_or, or_false, Nat.reduceLT, Nat.reduceEqDiff, Nat.reduceAdd, Nat.reduceLeDiff, Int.reduceEq, Int.reduceNe, Int.reduceLT, Int.reduceLE, Int.reduceAdd, Int.reduceNeg, Int.reduceSub, Int.reduceMul, hC_0_0, hC_0_1, hC_0_2, hC_0_3, hC_0_4, hC_0_5, hC_0_6, hC_0_7, hC_0_8, hC_0_9, hC_0_10, hC_0_11, hC_0_12, hC_0_13, hC_0_14, hC_0_15, hC_0_16, hC_1_0, hC_1_1, hC_1_2, hC_1_3, hC_1_4, hC_1_5, hC_2_0, hC_3_0, hC_3_1, hC_3_2, hC_3_3, hC_3_4, hC_3_5, hC_3_6, hC_3_7, hC_3_8, hC_3_9, hC_3_10, hC_3_11, hC_3_12, hC_4_0, hC_5_0, hC_6_0, hC_7_0, hC_8_0, hC_9_0, hC_9_1, hC_9_2, hC_10_0, hC_10_1, hC_10_2, hC_10_3, hC_10_4, hC_10_5, hC_10_6, hC_10_7, hC_10_8, hC_11_0, hC_12_0, hC_13_0, hC_14_0, hC_14_1, hC_14_2, hC_14_3, hC_14_4, hC_14_5, hC_14_6, hC_14_7, hC_14_8, hC_14_9, hC_14_10, hC_14_11, hC_14_12, hC_14_13, hC_14_14, hC_14_15, hC_14_16, hC_14_17, hC_14_18, hC_14_19, hC_14_20, hC_14_21, hC_14_22, hC_14_23, hC_15_0, hC_16_0, hC_17_0, hC_18_0, hC_18_1, hC_18_2, hC_18_3, hC_18_4, hC_19_0, hC_20_0, hC_20_1, hC_20_2, hC_20_3, hC_20_4, hC_20_5, hC_20_6, hC_20_7, hC_20_8, hC_21_0, hC_22_0, hC_23_0, hC_24_0, hC_24_1, hC_24_2, hC_24_3, hC_24_4, hC_24_5, hC_24_6, hC_24_7, hC_24_8, hC_25_0, hC_26_0, hC_27_0, hC_28_0, hC_28_1, hC_28_2, hC_28_3, hC_28_4, hC_28_5, hC_28_6, hC_28_7, hC_28_8, hC_29_0, hC_30_0, hC_31_0, hC_32_0, hC_32_1, hC_32_2, hC_32_3, hC_32_4, hC_32_5, hC_32_6, hC_32_7, hC_32_8, hC_33_0, hC_34_0, hC_35_0, hC_36_0, hC_36_1, hC_36_2, hC_36_3, hC_36_4, hC_36_5, hC_36_6, hC_36_7, hC_36_8, hC_37_0, hC_38_0, hC_39_0, hC_39_1, hC_39_2, hC_39_3, hC_39_4, hC_39_5, hC_39_6, hC_39_7, hC_39_8, hC_40_0, hC_41_0, hC_42_0, hC_43_0, hC_44_0, hC_45_0, hC_45_1, hC_45_2, hC_45_3, hC_45_4, hC_45_5, hC_46_0, hC_47_0, hC_47_1, hC_47_2, hC_47_3, hC_47_4, hC_47_5, hC_47_6, hC_47_7, hC_47_8, hC_47_9, hC_47_10, hC_47_11, hC_47_12, hC_47_13, hC_48_0, hC_49_0, hC_50_0, hC_51_0, hC_52_0, hC_52_1, hC_52_2, hC_52_3, hC_52_4, hC_52_5, hC_52_6, hC_52_7, hC_52_8, hC_52_9, hC_52_10, hC_52_11, hC_52_12, hC_52_13, hC_53_0, hC_54_0, hC_55_0, hC_56_0, hC_57_0, hC_58_0, hC_58_1, hC_58_2, hC_59_0, c_min, e2, e3, e4, e6]
          exact fin _ (by rw [if_neg o])
  rw [sX6_daysAtOdds_0]
  simp only [sX6_daysAtOdds_1, sX6_daysAtOdds_3, sX6_daysAtOdds_4, sX6_daysAtOdds_8, sX6_daysAtOdds_9, sX6_daysAtOdds_12, sX6_daysAtOdds_13, sX6_daysAtOdds_14, sX6_daysAtOdds_15, sX6_daysAtOdds_16, sX6_daysAtOdds_18, sX6_daysAtOdds_21, sX6_daysAtOdds_24, sX6_daysAtOdds_26, sX6_daysAtOdds_28, sX6_daysAtOdds_29, sX6_daysAtOdds_30, sX6_daysAtOdds_31, sX6_daysAtOdds_32, sX6_daysAtOdds_35, sX6_daysAtOdds_38, sX6_daysAtOdds_40, sX6_daysAtOdds_41, sX6_daysAtOdds_44, sX6_daysAtOdds_47, sX6_daysAtOdds_49, sX6_daysAtOdds_50, sX6_daysAtOdds_52, sX6_daysAtOdds_53, sX6_daysAtOdds_56, sX6_daysAtOdds_59, sX6_daysAtOdds_60, sX6_daysAtOdds_61, sX6_daysAtOdds_63, sX6_daysAtOdds_65, sX6_daysAtOdds_67, sX6_daysAtOdds_68, sX6_daysAtOdds_70, sX6_daysAtOdds_73, sX6_daysAtOdds_75, up_s, up_k, up_i, clr_n, clr_i, clr_j, clr_r, catS_n, catS_i, catS_j, catS_r, Option.toList_some, Option.toList_none, List.cons_append, List.nil_append, List.singleton_append, true_and, and_true, ne_eq, not_false_eq_true, not_true_eq_false, reduceCtorEq, if_true, if_false, true_or, or_true, false_or, or_false, Nat.reduceLT, Nat.reduceEqDiff, Nat.reduceAdd, Nat.reduceLeDiff, Int.reduceEq, Int.reduceNe, Int.reduceLT, Int.reduceLE, Int.reduceAdd, Int.reduceNeg, Int.reduceSub, Int.reduceMul]
  refine key 720 σ 0 0 none (by omega) (by omega) (by omega) r FrO.rf (by omega) (by omega) ?_
  intro σ' r' f'
  have := hQ σ' r' f'
  rw [Int.zero_add, Int.add_zero, Int.sub_zero]
  exact this
theorem C_daysOfPeace {b1 b2 span : Int} {m : Nat} (hm : 3 ≤ m) (r : RepC σ M Ls) (h1 : okB b1) (h2 : okB b2) (hs : 0 ≤ span ∧ span ≤ 720)
    (hQ : ∀ σ', RepC σ' M Ls → FrO σ σ' → Q (some (.inl (fsD (fun x => clB (lwO Ls (M 0 3)) b1 b2 x (M 0 0)) (M 0 2) span.toNat))) shC σ') :
    Ex m mX6_daysOfPeace 0 [some (.inr (.inr (some 14))), some (.inl b1), some (.inl b2), some (.inl span), none] [] shC σ Q := by
  obtain ⟨d, rfl⟩ : ∃ d, m = d + 3 := ⟨m - 3, by omega⟩
  have w := r.wf.sc
  generalize hg : (fun x => clB (lwO Ls (M 0 3)) b1 b2 x (M 0 0)) = g at *
  have gx : ∀ x, g x = clB (lwO Ls (M 0 3)) b1 b2 x (M 0 0) := fun x => by rw [← hg]
  have key : ∀ (f : Nat) (τ : Sto) (k : Int), span - k ≤ f → 0 ≤ k → (k ≤ span → ∀ σ', RepC σ' M Ls → FrO σ σ' → Q (some (.inl (k + fsD g (M 0 2 + k) (span - k).toNat))) shC σ') → (span < k → ∀ σ', RepC σ' M Ls → FrO σ σ' → Q (some (.inl span)) shC σ') → RepC τ M Ls → FrO σ τ →
      Ex (d + 3) mX6_daysOfPeace 3 [some (.inr (.inr (some 14))), some (.inl b1), some (.inl b2), some (.inl span), some (.inl k)] [] shC τ Q := by
    intro f
    induction f with
    | zero =>
      intro τ k hf k0 hQ1 hQ2 r f0
      have c : span ≤ k := by omega
      rw [sX6_daysOfPeace_3]
      simp only [sX6_daysOfPeace_0, sX6_daysOfPeace_1, sX6_daysOfPeace_5, sX6_daysOfPeace_6, sX6_daysOfPeace_9, sX6_daysOfPeace_10, sX6_daysOfPeace_13, sX6_daysOfPeace_14, sX6_daysOfPeace_15, sX6_daysOfPeace_16, sX6_daysOfPeace_19, sX6_daysOfPeace_22, sX6_daysOfPeace_24, sX6_daysOfPeace_25, sX6_daysOfPeace_26, sX6_daysOfPeace_29, sX6_daysOfPeace_32, sX6_daysOfPeace_35, sX6_daysOfPeace_37, sX6_daysOfPeace_38, sX6_daysOfPeace_40, sX6_daysOfPeace_41, sX6_daysOfPeace_42, sX6_daysOfPeace_45, sX6_daysOfPeace_46, sX6_daysOfPeace_47, sX6_daysOfPeace_48, sX6_daysOfPeace_51, sX6_daysOfPeace_54, sX6_daysOfPeace_56, sX6_daysOfPeace_57, sX6_daysOfPeace_60, sX6_daysOfPeace_63, sX6_daysOfPeace_64, sX6_daysOfPeace_66, sX6_daysOfPeace_69, sX6_daysOfPeace_70, up_s, up_k, up_i, clr_n, clr_i, clr_j, clr_r, catS_n, catS_i, catS_j, catS_r, Option.toList_some, Option.toList_none, List.cons_append, List.nil_append, List.singleton_append, true_and, and_true, ne_eq, not_false_eq_true, not_true_eq_false, reduceCtorEq, if_true, if_false, true_or, or_true, false_or, or_false, Nat.reduceLT, Nat.reduceEqDiff, Nat.reduceAdd, Nat.reduceLeDiff, Int.reduceEq, Int.reduceNe, Int.reduceLT, Int.reduceLE, Int.reduceAdd, Int.reduceNeg, Int.reduceSub, Int.reduceMul, c]
      by_cases c2 : span < k
      · exact hQ2 c2 τ r f0
      · have := hQ1 (by omega) τ r f0
        rw [show (span - k).toNat = 0 by omega] at this
        simp only [fsD, Int.add_zero] at this
        rw [show span = k by omega]
        exact this
    | succ f ih =>
      intro τ k hf k0 hQ1 hQ2 r f0
      rw [sX6_daysOfPeace_3]
      by_cases c : span ≤ k
      · simp only [sX6_daysOfPeace_0, sX6_daysOfPeace_1, sX6_daysOfPeace_5, sX6_daysOfPeace_6, sX6_daysOfPeace_9, sX6_daysOfPeace_10, sX6_daysOfPeace_13, sX6_daysOfPeace_14, sX6_daysOfPeace_15, sX6_daysOfPeace_16, sX6_daysOfPeace_19, sX6_daysOfPeace_22, sX6_daysOfPeace_24, sX6_daysOfPeace_25, sX6_daysOfPeace_26, sX6_daysOfPeace_29, sX6_daysOfPeace_32, sX6_daysOfPeace_35, sX6_daysOfPeace_37, sX6_daysOfPeace_38, sX6_daysOfPeace_40, sX6_daysOfPeace_41, sX6_daysOfPeace_42, sX6_daysOfPeace_45, sX6_daysOfPeace_46, sX6_daysOfPeace_47, sX6_daysOfPeace_48, sX6_daysOfPeace_51, sX6_daysOfPeace_54, sX6_daysOfPeace_56, sX6_daysOfPeace_57, sX6_daysOfPeace_60, sX6_daysOfPeace_63, sX6_daysOfPeace_64, sX6_daysOfPeace_66, sX6_daysOfPeace_69, sX6_daysOfPeace_70, up_s, up_k, up_i, clr_n, clr_i, clr_j, clr_r, catS_n, catS_i, catS_j, catS_r, Option.toList_some, Option.toList_none, List.cons_append, List.nil_append, List.singleton_append, true_and, and_true, ne_eq, not_false_eq_true, not_true_eq_false, reduceCtorEq, if_true, if_false, true_or, or_true, false_or, or_false, Nat.reduceLT, Nat.reduceEqDiff, Nat.reduceAdd, Nat.reduceLeDiff, Int.reduceEq, Int.reduceNe, Int.reduceLT, Int.reduceLE, Int.reduceAdd, Int.reduceNeg, Int.reduceSub, Int.reduceMul, c]
        by_cases c2 : span < k
        · exact hQ2 c2 τ r f0
        · have := hQ1 (by omega) τ r f0
          rw [show (span - k).toNat = 0 by omega] at this
          simp only [fsD, Int.add_zero] at this
          rw [show span = k by omega]
          exact this
      · have s := r.sc
        have e1 : w32 (M 0 2 + k) = M 0 2 + k := w32_of ⟨by omega, by omega⟩
        have hx : okD (M 0 2 + k) := ⟨by omega, by omega⟩
        simp only [sX6_daysOfPeace_0, sX6_daysOfPeace_1, sX6_daysOfPeace_5, sX6_daysOfPeace_6, sX6_daysOfPeace_9, sX6_daysOfPeace_10, sX6_daysOfPeace_13, sX6_daysOfPeace_14, sX6_daysOfPeace_15, sX6_daysOfPeace_16, sX6_daysOfPeace_19, sX6_daysOfPeace_22, sX6_daysOfPeace_24, sX6_daysOfPeace_25, sX6_daysOfPeace_26, sX6_daysOfPeace_29, sX6_daysOfPeace_32, sX6_daysOfPeace_35, sX6_daysOfPeace_37, sX6_daysOfPeace_38, sX6_daysOfPeace_40, sX6_daysOfPeace_41, sX6_daysOfPeace_42, sX6_daysOfPeace_45, sX6_daysOfPeace_46, sX6_daysOfPeace_47, sX6_daysOfPeace_48, sX6_daysOfPeace_51, sX6_daysOfPeace_54, sX6_daysOfPeace_56, sX6_daysOfPeace_57, sX6_daysOfPeace_60, sX6_daysOfPeace_63, sX6_daysOfPeace_64, sX6_daysOfPeace_66, sX6_daysOfPeace_69, sX6_daysOfPeace_70, up_s, up_k, up_i, clr_n, clr_i, clr_j, clr_r, catS_n, catS_i, catS_j, catS_r, Option.toList_some, Option.toList_none, List.cons_append, List.nil_append, List.singleton_append, true_and, and_true, ne_eq, not_false_eq_true, not_true_eq_false, reduceCtorEq, if_true, if_false, true_or, or_true, false_or, or_false, Nat.reduceLT, Nat.reduceEqDiff, Nat.reduceAdd, Nat.reduceLeDiff, Int.reduceEq, Int.reduceNe, Int.reduceLT, Int.reduceLE, Int.reduceAdd, Int.reduceNeg, Int.reduceSub, Int.reduceMul, hC_0_0, hC_0_1, hC_0_2, hC_0_3, hC_0_4, hC_0_5, hC_0_6, hC_0_7, hC_0_8, hC_0_9, hC_0_10, hC_0_11, hC_0_12, hC_0_13, hC_0_14, hC_0_15, hC_0_16, hC_1_0, hC_1_1, hC_1_2, hC_1_3, hC_1_4, hC_1_5, hC_2_0, hC_3_0, hC_3_1, hC_3_2, hC_3_3, hC_3_4, hC_3_5, hC_3_6, hC_3_7, hC_3_8, hC_3_9, hC_3_10, hC_3_11, hC_3_12, hC_4_0, hC_5_0, hC_6_0, hC_7_0, hC_8_0, hC_9_0, hC_9_1, hC_9_2, hC_10_0, hC_10_1, hC_10_2, hC_10_3, hC_10_4, hC_10_5, hC_10_6, hC_10_7, hC_10_8, hC_11_0, hC_12_0, hC_13_0, hC_14_0, hC_14_1, hC_14_2, hC_14_3, hC_14_4, hC_14_5, hC_14_6, hC_14_7, hC_14_8, hC_14_9, hC_14_10, hC_14_11, hC_14_12, hC_14_13, hC_14_14, hC_14_15, hC_14_16, hC_14_17, hC_14_18, hC_14_19, hC_14_20, hC_14_21, hC_14_22, hC_14_23, hC_15_0, hC_16_0, hC_17_0, hC_18_0, hC_18_1, hC_18_2, hC_18_3, hC_18_4, hC_19_0, hC_20_0, hC_20_1, hC_20_2, hC_20_3, hC_20_4, hC_20_5, hC_20_6, hC_20_7, hC_20_8, hC_21_0, hC_22_0, hC_23_0, hC_24_0, hC_24_1, hC_24_2, hC_24_3, hC_24_4, hC_24_5, hC_24_6, hC_24_7, hC_24_8, hC_25_0, hC_26_0, hC_27_0, hC_28_0, hC_28_1, hC_28_2, hC_28_3, hC_28_4, hC_28_5, hC_28_6, hC_28_7, hC_28_8, hC_29_0, hC_30_0, hC_31_0, hC_32_0, hC_32_1, hC_32_2, hC_32_3, hC_32_4, hC_32_5, hC_32_6, hC_32_7, hC_32_8, hC_33_0, hC_34_0, hC_35_0, hC_36_0, hC_36_1, hC_36_2, hC_36_3, hC_36_4, hC_36_5, hC_36_6, hC_36_7, hC_36_8, hC_37_0, hC_38_0, hC_39_0, hC_39_1, hC_39_2, hC_39_3, hC_39_4, hC_39_5, hC_39_6, hC_39_7, hC_39_8, hC_40_0, hC_41_0, hC_42_0, hC_43_0, hC_44_0, hC_45_0, hC_45_1, hC_45_2, hC_45_3, hC_45_4, hC_45_5, hC_46_0, hC_47_0, hC_47_1, hC_47_2, hC_47_3, hC_47_4, hC_47_5, hC_47_6, hC_47_7, hC_47_8, hC_47_9, hC_47_10, hC_47_11, hC_47_12, hC_47_13, hC_48_0, hC_49_0, hC_50_0, hC_51_0, hC_52_0, hC_52_1, hC_52_2, hC_52_3, hC_52_4, hC_52_5, hC_52_6, hC_52_7, hC_52_8, hC_52_9, hC_52_10, hC_52_11, hC_52_12, hC_52_13, hC_53_0, hC_54_0, hC_55_0, hC_56_0, hC_57_0, hC_58_0, hC_58_1, hC_58_2, hC_59_0, c, s.2.2.1, e1, s.1]
        refine C_forbid (by omega) r.lw h1 h2 hx (by omega) ?_
        intro τ' f'
        have r' := f'.c.rep r
        have s' := r'.sc
        rw [s.2.2.2, ← gx]
        by_cases o : g (M 0 2 + k) = true
        · rw [bz_t o]
          simp only [sX6_daysOfPeace_0, sX6_daysOfPeace_1, sX6_daysOfPeace_5, sX6_daysOfPeace_6, sX6_daysOfPeace_9, sX6_daysOfPeace_10, sX6_daysOfPeace_13, sX6_daysOfPeace_14, sX6_daysOfPeace_15, sX6_daysOfPeace_16, sX6_daysOfPeace_19, sX6_daysOfPeace_22, sX6_daysOfPeace_24, sX6_daysOfPeace_25, sX6_daysOfPeace_26, sX6_daysOfPeace_29, sX6_daysOfPeace_32, sX6_daysOfPeace_35, sX6_daysOfPeace_37, sX6_daysOfPeace_38, sX6_daysOfPeace_40, sX6_daysOfPeace_41, sX6_daysOfPeace_42, sX6_daysOfPeace_45, sX6_daysOfPeace_46, sX6_daysOfPeace_47, sX6_daysOfPeace_48, sX6_daysOfPeace_51, sX6_daysOfPeace_54, sX6_daysOfPeace_56, sX6_daysOfPeace_57, sX6_daysOfPeace_60, sX6_daysOfPeace_63, sX6_daysOfPeace_64, sX6_daysOfPeace_66, sX6_daysOfPeace_69, sX6_daysOfPeace_70, up_s, up_k, up_i, clr_n, clr_i, clr_j, clr_r, catS_n, catS_i, catS_j, catS_r, Option.toList_some, Option.toList_none, List.cons_append, List.nil_append, List.singleton_append, true_and, and_true, ne_eq, not_false_eq_true, not_true_eq_false, reduceCtorEq, if_true, if_false, true_or, or_true, false_or, or_false, Nat.reduceLT, Nat.reduceEqDiff, Nat.reduceAdd, Nat.reduceLeDiff, Int.reduceEq, Int.reduceNe, Int.reduceLT, Int.reduceLE, Int.reduceAdd, Int.reduceNeg, Int.reduceSub, Int.reduceMul, hC_0_0, hC_0_1, hC_0_2, hC_0_3, hC_0_4, hC_0_5, hC_0_6, hC_0_7, hC_0_8, hC_0_9, hC_0_10, hC_0_11, hC_0_12, hC_0_13, hC_0_14, hC_0_15, hC_0_16, hC_1_0, hC_1_1, hC_1_2, hC_1_3, hC_1_4, hC_1_5, hC_2_0, hC_3_0, hC_3_1, hC_3_2, hC_3_3, hC_3_4, hC_3_5, hC_3_6, hC_3_7, hC_3_8, hC_3_9, hC_3_10, hC_3_11, hC_3_12, hC_4_0, hC_5_0, hC_6_0, hC_7_0, hC_8_0, hC_9_0, hC_9_1, hC_9_2, hC_10_0, hC_10_1, hC_10_2, hC_10_3, hC_10_4, hC_10_5, hC_10_6, hC_10_7, hC_10_8, hC_11_0, hC_12_0, hC_13_0, hC_14_0, hC_14_1, hC_14_2, hC_14_3, hC_14_4, hC_14_5, hC_14_6, hC_14_7, hC_14_8, hC_14_9, hC_14_10, hC_14_11, hC_14_12, hC_14_13, hC_14_14, hC_14_15, hC_14_16, hC_14_17, hC_14_18, hC_14_19, hC_14_20, hC_14_21, hC_14_22, hC_14_23, hC_15_0, hC_16_0, hC_17_0, hC_18_0, hC_18_1, hC_18_2, hC_18_3, hC_18_4, hC_19_0, hC_20_0, hC_20_1, hC_20_2, hC_20_3, hC_20_4, hC_20_5, hC_20_6, hC_20_7, hC_20_8, hC_21_0, hC_22_0, hC_23_0, hC_24_0, hC_24_1, hC_24_2, hC_24_3, hC_24_4, hC_24_5, hC_24_6, hC_24_7, hC_24_8, hC_25_0, hC_26_0, hC_27_0, hC_28_0, hC_28_1, hC_28_2, hC_28_3, hC_28_4, hC_28_5, hC_28_6, hC_28_7, hC_28_8, hC_29_0, hC_30_0, hC_31_0, hC_32_0, hC_32_1, hC_32_2, hC_32_3, hC_32_4, hC_32_5, hC_32_6, hC_32_7, hC_32_8, hC_33_0, hC_34_0, hC_35_0, hC_36_0, hC_36_1, hC_36_2, hC_36_3, hC_36_4, hC_36_5, hC_36_6, hC_36_7, hC_36_8, hC_37_0, hC_38_0, hC_39_0, hC_39_1, hC_39_2, hC_39_3, hC_39_4, hC_39_5, hC_39_6, hC_39_7, hC_39_8, hC_40_0, hC_41_0, hC_42_0, hC_43_0, hC_44_0, hC_45_0, hC_45_1, hC_45_2, hC_45_3, hC_45_4, hC_45_5, hC_46_0, hC_47_0, hC_47_1, hC_47_2, hC_47_3, hC_47_4, hC_47_5, hC_47_6, hC_47_7, hC_47_8, hC_47_9, hC_47_10, hC_47_11, hC_47_12, hC_47_13, hC_48_0, hC_49_0, hC_50_0, hC_51_0, hC_52_0, hC_52_1, hC_52_2, hC_52_3, hC_52_4, hC_52_5, hC_52_6, hC_52_7, hC_52_8, hC_52_9, hC_52_10, hC_52_11, hC_52_12, hC_52_13, hC_53_0, hC_54_0, hC_55_0, hC_56_0, hC_57_0, hC_58_0, hC_58_1, hC_58_2, hC_59_0]
          have := hQ1 (by omega) τ' r' (f0.tr f')
          rw [show (span - k).toNat = (span - k - 1).toNat + 1 by omega] at this
          simp only [fsD] at this
          rw [if_pos o, Int.add_zero] at this
          exact this
        · rw [bz_f o]
          have sr := stD_r (lwO Ls (M 0 3)) b1 b2 (M 0 2 + k)
          have st : ∀ j : Int, 0 ≤ j → j < stD (lwO Ls (M 0 3)) b1 b2 (M 0 2 + k) → g (M 0 2 + k + j) = false := fun j j0 j1 => by
            rw [gx, clB_steady _ j0 j1, ← gx]
            exact Bool.eq_false_iff.mpr o
          simp only [sX6_daysOfPeace_0, sX6_daysOfPeace_1, sX6_daysOfPeace_5, sX6_daysOfPeace_6, sX6_daysOfPeace_9, sX6_daysOfPeace_10, sX6_daysOfPeace_13, sX6_daysOfPeace_14, sX6_daysOfPeace_15, sX6_daysOfPeace_16, sX6_daysOfPeace_19, sX6_daysOfPeace_22, sX6_daysOfPeace_24, sX6_daysOfPeace_25, sX6_daysOfPeace_26, sX6_daysOfPeace_29, sX6_daysOfPeace_32, sX6_daysOfPeace_35, sX6_daysOfPeace_37, sX6_daysOfPeace_38, sX6_daysOfPeace_40, sX6_daysOfPeace_41, sX6_daysOfPeace_42, sX6_daysOfPeace_45, sX6_daysOfPeace_46, sX6_daysOfPeace_47, sX6_daysOfPeace_48, sX6_daysOfPeace_51, sX6_daysOfPeace_54, sX6_daysOfPeace_56, sX6_daysOfPeace_57, sX6_daysOfPeace_60, sX6_daysOfPeace_63, sX6_daysOfPeace_64, sX6_daysOfPeace_66, sX6_daysOfPeace_69, sX6_daysOfPeace_70, up_s, up_k, up_i, clr_n, clr_i, clr_j, clr_r, catS_n, catS_i, catS_j, catS_r, Option.toList_some, Option.toList_none, List.cons_append, List.nil_append, List.singleton_append, true_and, and_true, ne_eq, not_false_eq_true, not_true_eq_false, reduceCtorEq, if_true, if_false, true_or, or_true, false_or, or_false, Nat.reduceLT, Nat.reduceEqDiff, Nat.reduceAdd, Nat.reduceLeDiff, Int.reduceEq, Int.reduceNe, Int.reduceLT, Int.reduceLE, Int.reduceAdd, Int.reduceNeg, Int.reduceSub, Int.reduceMul, hC_0_0, hC_0_1, hC_0_2, hC_0_3, hC_0_4, hC_0_5, hC_0_6, hC_0_7, hC_0_8, hC_0_9, hC_0_10, hC_0_11, hC_0_12, hC_0_13, hC_0_14, hC_0_15, hC_0_16, hC_1_0, hC_1_1, hC_1_2, hC_1_3, hC_1_4, hC_1_5, hC_2_0, hC_3_0, hC_3_1, hC_3_2, hC_3_3, hC_3_4, hC_3_5, hC_3_6, hC_3_7, hC_3_8, hC_3_9, hC_3_10, hC_3_11, hC_3_12, hC_4_0, hC_5_0, hC_6_0, hC_7_0, hC_8_0, hC_9_0, hC_9_1, hC_9_2, hC_10_0, hC_10_1, hC_10_2, hC_10_3, hC_10_4, hC_10_5, hC_10_6, hC_10_7, hC_10_8, hC_11_0, hC_12_0, hC_13_0, hC_14_0, hC_14_1, hC_14_2, hC_14_3, hC_14_4, hC_14_5, hC_14_6, hC_14_7, hC_14_8, hC_14_9, hC_14_10, hC_14_11, hC_14_12, hC_14_13, hC_14_14, hC_14_15, hC_14_16, hC_14_17, hC_14_18, hC_14_19, hC_14_20, hC_14_21, hC_14_22, hC_14_23, hC_15_0, hC_16_0, hC_17_0, hC_18_0, hC_18_1, hC_18_2, hC_18_3, hC_18_4, hC_19_0, hC_20_0, hC_20_1, hC_20_2, hC_20_3, hC_20_4, hC_20_5, hC_20_6, hC_20_7, hC_20_8, hC_21_0, hC_22_0, hC_23_0, hC_24_0, hC_24_1, hC_24_2, hC_24_3, hC_24_4, hC_24_5, hC_24_6, hC_24_7, hC_24_8, hC_25_0, hC_26_0, hC_27_0, hC_28_0, hC_28_1, hC_28_2, hC_28_3, hC_28_4, hC_28_5, hC_28_6, hC_28_7, hC_28_8, hC_29_0, hC_30_0, hC_31_0, hC_32_0, hC_32_1, hC_32_2, hC_32_3, hC_32_4, hC_32_5, hC_32_6, hC_32_7, hC_32_8, hC_33_0, hC_34_0, hC_35_0, hC_36_0, hC_36_1, hC_36_2, hC_36_3, hC_36_4, hC_36_5, hC_36_6, hC_36_7, hC_36_8, hC_37_0, hC_38_0, hC_39_0, hC_39_1, hC_39_2, hC_39_3, hC_39_4, hC_39_5, hC_39_6, hC_39_7, hC_39_8, hC_40_0, hC_41_0, hC_42_0, hC_43_0, hC_44_0, hC_45_0, hC_45_1, hC_45_2, hC_45_3, hC_45_4, hC_45_5, hC_46_0, hC_47_0, hC_47_1, hC_47_2, hC_47_3, hC_47_4, hC_47_5, hC_47_6, hC_47_7, hC_47_8, hC_47_9, hC_47_10, hC_47_11, hC_47_12, hC_47_13, hC_48_0, hC_49_0, hC_50_0, hC_51_0, hC_52_0, hC_52_1, hC_52_2, hC_52_3, hC_52_4, hC_52_5, hC_52_6, hC_52_7, hC_52_8, hC_52_9, hC_52_10, hC_52_11, hC_52_12, hC_52_13, hC_53_0, hC_54_0, hC_55_0, hC_56_0, hC_57_0, hC_58_0, hC_58_1, hC_58_2, hC_59_0, s'.2.2.1, e1, c_steady (show 2 ≤ d + 2 by omega) r'.lw h1 h2 hx, s'.2.2.2, c_max]
          generalize stD (lwO Ls (M 0 3)) b1 b2 (M 0 2 + k) = z at *
          have e3 : max 1 z = z := by omega
          have e4 : w32 (k + z) = k + z := w32_of ⟨by omega, by omega⟩
          rw [e3, e4]
          have sp : k + z ≤ span → fsD g (M 0 2 + k) (span - k).toNat = z + fsD g (M 0 2 + (k + z)) (span - (k + z)).toNat := fun q => by
            rw [fsD_skip g z.toNat _ (span - k).toNat (by omega) (fun j j0 j1 => st j j0 (by omega)), show M 0 2 + k + (z.toNat : Int) = M 0 2 + (k + z) by omega, show (span - k).toNat - z.toNat = (span - (k + z)).toNat by omega, show (z.toNat : Int) = z by omega]
          refine ih τ' (k + z) (by omega) (by omega) ?_ ?_ r' (f0.tr f')
          · intro q σ2 r2 f2
            have := hQ1 (by omega) σ2 r2 f2
            rw [sp q, ← Int.add_assoc] at this
            exact this
          · intro q σ2 r2 f2
            have := hQ1 (by omega) σ2 r2 f2
            rw [fsD_skip g (span - k).toNat _ (span - k).toNat (by omega) (fun j j0 j1 => st j j0 (by omega)), show (span - k).toNat - (span - k).toNat = 0 by omega] at this
            simp only [fsD, Int.add_zero] at this
            rw [show k + ((span - k).toNat : Int) = span by omega] at this
            exact this
  rw [sX6_daysOfPeace_0]
  simp only [sX6_daysOfPeace_1, sX6_daysOfPeace_5, sX6_daysOfPeace_6, sX6_daysOfPeace_9, sX6_daysOfPeace_10, sX6_daysOfPeace_13, sX6_daysOfPeace_14, sX6_daysOfPeace_15, sX6_daysOfPeace_16, sX6_daysOfPeace_19, sX6_daysOfPeace_22, sX6_daysOfPeace_24, sX6_daysOfPeace_25, sX6_daysOfPeace_26, sX6_daysOfPeace_29, sX6_daysOfPeace_32, sX6_daysOfPeace_35, sX6_daysOfPeace_37, sX6_daysOfPeace_38, sX6_daysOfPeace_40, sX6_daysOfPeace_41, sX6_daysOfPeace_42, sX6_daysOfPeace_45, sX6_daysOfPeace_46, sX6_daysOfPeace_47, sX6_daysOfPeace_48, sX6_daysOfPeace_51, sX6_daysOfPeace_54, sX6_daysOfPeace_56, sX6_daysOfPeace_57, sX6_daysOfPeace_60, sX6_daysOfPeace_63, sX6_daysOfPeace_64, sX6_daysOfPeace_66, sX6_daysOfPeace_69, sX6_daysOfPeace_70, up_s, up_k, up_i, clr_n, clr_i, clr_j, clr_r, catS_n, catS_i, catS_j, catS_r, Option.toList_some, Option.toList_none, List.cons_append, List.nil_append, List.singleton_append, true_and, and_true, ne_eq, not_false_eq_true, not_true_eq_false, reduceCtorEq, if_true, if_false, true_or, or_true, false_or, or_false, Nat.reduceLT, Nat.reduceEqDiff, Nat.reduceAdd, Nat.reduceLeDiff, Int.reduceEq, Int.reduceNe, Int.reduceLT, Int.reduceLE, Int.reduceAdd, Int.reduceNeg, Int.reduceSub, Int.reduceMul]
  refine key 720 σ 0 (by omega) (by omega) ?_ (fun q => by omega) r FrO.rf
  intro _ σ' r' f'
  have := hQ σ' r' f'
  rw [Int.zero_add, Int.add_zero, Int.sub_zero]
  exact this
end
