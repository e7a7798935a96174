section
variable {d : Nat} {sh : List Kd} {σ : Sto} {Q : Option AV → List Kd → Sto → Prop} {t : Nat} {M : Sto} {Ls : List (List Cl)}
/-- the foes of one on a day -/
def tdF (M : Sto) (Ls : List (List Cl)) (x p v : Int) : Bool := decide (¬ v = p) && od M Ls p v x
def tdN (M : Sto) (Ls : List (List Cl)) (x p : Int) : Nat := seN (tdF M Ls x p) (M 0 0).toNat
def FrT (σ σ' : Sto) : Prop := ∀ k i, ¬ (k = 16 ∨ k = 4 ∨ k = 0 ∧ (8 ≤ i ∧ i ≤ 14 ∨ i = 17)) → σ' k i = σ k i
theorem FrT.rf : FrT σ σ := fun _ _ _ => rfl
theorem FrT.tr {a b c : Sto} (h1 : FrT a b) (h2 : FrT b c) : FrT a c := fun k i h => (h2 k i h).trans (h1 k i h)
theorem FrD.tt {σ σ' : Sto} (h : FrD σ σ') : FrT σ σ' := fun k i q => h k i (by omega)
theorem RepR.td {i v : Int} (r : RepR t σ M Ls) : RepR t (up σ 16 i v) M Ls :=
  FrN.rep' (fun k i q => up_ne (by unfold kpR at q; omega)) r (fun i => by rw [up_k (by decide)])
theorem FrT.up {σ' : Sto} {i v : Int} (h : FrT σ σ') : FrT σ (up σ' 16 i v) := fun k j q => by rw [up_k (by omega)]; exact h k j q
theorem R_layToday {x : Int} {m : Nat} (hm : 34 ≤ m) (r : RepR t σ M Ls) (hx : okD x)
    (hQ : ∀ σ' t', RepR t' σ' M Ls → FrT σ σ' → (∀ p, 0 ≤ p → p < M 0 0 → σ' 16 p = tdN M Ls x p) → Q none (shR t') σ') : Ex m mX12_layToday 0 [(some (.inr (.inr (some (0))))), (some (.inl (x))), none, none] [] (shR t) σ Q := by
  obtain ⟨d, rfl⟩ : ∃ d, m = d + 34 := ⟨m - 34, by omega⟩
  have w := r.wf.sc
  have inner : ∀ (g : Nat) (τ : Sto) (t' : Nat) (a : Int) (b : Nat), M 0 0 - b < g → 0 ≤ a → a < M 0 0 → b ≤ M 0 0 → RepR t' τ M Ls → FrT σ τ → (∀ p, 0 ≤ p → p < a → τ 16 p = tdN M Ls x p) → τ 16 a = seN (tdF M Ls x a) b →
      (∀ τ t' y, RepR t' τ M Ls → FrT σ τ → (∀ p, 0 ≤ p → p < a + 1 → τ 16 p = tdN M Ls x p) → Ex (d + 34) mX12_layToday 64 [(some (.inr (.inr (some (0))))), (some (.inl (x))), (some (.inl (a))), y] [] (shR t') τ Q) →
      Ex (d + 34) mX12_layToday 19 [(some (.inr (.inr (some (0))))), (some (.inl (x))), (some (.inl (a))), (some (.inl ((b : Int))))] [] (shR t') τ Q := by
    intro g
    induction g with
    | zero => intros; omega
    | succ g ih =>
      intro τ t' a b hg a0 a1 b1 r' f' hp hs hK
      have a6 : a < 6 := by omega
      have e1 : ∀ _ : Unit, w32 ((b : Int) + 1) = ((b + 1 : Nat) : Int) := fun _ => by rw [w32_of ⟨by omega, by omega⟩]; omega
      rw [sX12_layToday_19]
      by_cases k : M 0 0 ≤ b
      · simp only [sX12_layToday_1, sX12_layToday_3, sX12_layToday_4, sX12_layToday_7, sX12_layToday_10, sX12_layToday_11, sX12_layToday_14, sX12_layToday_15, sX12_layToday_16, sX12_layToday_17, sX12_layToday_18, sX12_layToday_20, sX12_layToday_21, sX12_layToday_24, sX12_layToday_27, sX12_layToday_28, sX12_layToday_31, sX12_layToday_32, sX12_layToday_33, sX12_layToday_34, sX12_layToday_35, sX12_layToday_36, sX12_layToday_39, sX12_layToday_40, sX12_layToday_41, sX12_layToday_42, sX12_layToday_43, sX12_layToday_46, sX12_layToday_49, sX12_layToday_50, sX12_layToday_51, sX12_layToday_52, sX12_layToday_55, sX12_layToday_56, sX12_layToday_57, sX12_layToday_58, sX12_layToday_61, sX12_layToday_67, sX12_layToday_70, up_s, up_k, up_i, clr_n, clr_i, clr_j, clr_r, catS_n, catS_i, catS_j, catS_r, Option.toList_some, Option.toList_none, List.cons_append, List.nil_append, List.singleton_append, true_and, and_true, ne_eq, not_false_eq_true, not_true_eq_false, reduceCtorEq, if_true, if_false, true_or, or_true, false_or, or_false, Nat.reduceLT, Nat.reduceEqDiff, Nat.reduceAdd, Nat.reduceLeDiff, Int.reduceEq, Int.reduceNe, Int.reduceLT, Int.reduceLE, Int.reduceAdd, Int.reduceNeg, Int.reduceSub, Int.reduceMul, hR_0_0, hR_0_1, hR_0_2, hR_0_3, hR_0_4, hR_0_5, hR_0_6, hR_0_7, hR_0_8, hR_0_9, hR_0_10, hR_0_11, hR_0_12, hR_0_13, hR_0_14, hR_0_15, hR_0_16, hR_0_17, hR_0_18, hR_0_19, hR_0_20, hR_0_21, hR_0_22, hR_0_23, hR_0_24, hR_0_25, hR_0_26, hR_0_27, hR_0_28, hR_0_29, hR_0_30, hR_0_31, hR_0_32, hR_0_33, hR_0_34, hR_0_35, hR_0_36, hR_0_37, hR_0_38, hR_0_39, hR_0_40, hR_0_41, hR_0_42, hR_0_43, hR_0_44, hR_0_45, hR_0_46, hR_0_47, hR_0_48, hR_0_49, hR_0_50, hR_0_51, hR_0_52, hR_0_53, hR_0_54, hR_0_55, hR_0_56, hR_0_57, hR_0_58, hR_0_59, hR_0_60, hR_0_61, hR_0_62, hR_0_63, hR_0_64, hR_0_65, hR_0_66, hR_0_67, hR_0_68, hR_0_69, hR_0_70, hR_0_71, hR_0_72, hR_0_73, hR_0_74, hR_0_75, hR_0_76, hR_0_77, hR_0_78, hR_0_79, hR_0_80, hR_0_81, hR_0_82, hR_0_83, hR_0_84, hR_0_85, hR_0_86, hR_0_87, hR_0_88, hR_0_89, hR_0_90, hR_1_0, hR_2_0, hR_3_0, hR_4_0, hR_5_0, hR_6_0, hR_7_0, hR_8_0, hR_9_0, hR_10_0, hR_11_0, hR_12_0, hR_13_0, hR_14_0, hR_15_0, hR_16_0, hR_17_0, hR_18_0, hR_19_0, hR_20_0, hR_21_0, hR_22_0, hR_23_0, hR_24_0, hR_25_0, hR_26_0, hR_27_0, r'.sc.1, k]
        refine hK τ t' _ r' f' (fun p p0 p1 => ?_)
        by_cases c : p = a
        · rw [c, hs]; unfold tdN; rw [show (M 0 0).toNat = b by omega]
        · exact hp p p0 (by omega)
      · have o3 := seN_or (f := tdF M Ls x a) (n := b) (by omega)
        have l3 := seN_lt (tdF M Ls x a) b
        have l4 : 2 ^ b ≤ 2 ^ 6 := Nat.pow_le_pow_right (by omega) (by omega)
        have o4 := zor_0 (a := seN (tdF M Ls x a) b) (by omega)
        have fin : ∀ τ2 t2, RepR t2 τ2 M Ls → FrT σ τ2 → (∀ p, p ≠ a → τ2 16 p = τ 16 p) → τ2 16 a = seN (tdF M Ls x a) (b + 1) → Ex (d + 34) mX12_layToday 19 [(some (.inr (.inr (some (0))))), (some (.inl (x))), (some (.inl (a))), (some (.inl (((b + 1 : Nat) : Int))))] [] (shR t2) τ2 Q := fun τ2 t2 r2 f2 h1 h2 =>
          ih τ2 t2 a (b + 1) (by omega) a0 a1 (by omega) r2 f2 (fun p p0 p1 => by rw [h1 p (by omega)]; exact hp p p0 p1) h2 hK
        by_cases c : a = (b : Int)
        · have f0 : tdF M Ls x a b = false := by unfold tdF; rw [decide_eq_false (fun q => q c.symm), Bool.false_and]
          simp only [sX12_layToday_1, sX12_layToday_3, sX12_layToday_4, sX12_layToday_7, sX12_layToday_10, sX12_layToday_11, sX12_layToday_14, sX12_layToday_15, sX12_layToday_16, sX12_layToday_17, sX12_layToday_18, sX12_layToday_20, sX12_layToday_21, sX12_layToday_24, sX12_layToday_27, sX12_layToday_28, sX12_layToday_31, sX12_layToday_32, sX12_layToday_33, sX12_layToday_34, sX12_layToday_35, sX12_layToday_36, sX12_layToday_39, sX12_layToday_40, sX12_layToday_41, sX12_layToday_42, sX12_layToday_43, sX12_layToday_46, sX12_layToday_49, sX12_layToday_50, sX12_layToday_51, sX12_layToday_52, sX12_layToday_55, sX12_layToday_56, sX12_layToday_57, sX12_layToday_58, sX12_layToday_61, sX12_layToday_67, sX12_layToday_70, up_s, up_k, up_i, clr_n, clr_i, clr_j, clr_r, catS_n, catS_i, catS_j, catS_r, Option.toList_some, Option.toList_none, List.cons_append, List.nil_append, List.singleton_append, true_and, and_true, ne_eq, not_false_eq_true, not_true_eq_false, reduceCtorEq, if_true, if_false, true_or, or_true, false_or, or_false, Nat.reduceLT, Nat.reduceEqDiff, Nat.reduceAdd, Nat.reduceLeDiff, Int.reduceEq, Int.reduceNe, Int.reduceLT, Int.reduceLE, Int.reduceAdd, Int.reduceNeg, Int.reduceSub, Int.reduceMul, hR_0_0, hR_0_1, hR_0_2, hR_0_3, hR_0_4, hR_0_5, hR_0_6, hR_0_7, hR_0_8, hR_0_9, hR_0_10, hR_0_11, hR_0_12, hR_0_13, hR_0_14, hR_0_15, hR_0_16, hR_0_17, hR_0_18, hR_0_19, hR_0_20, hR_0_21, hR_0_22, hR_0_23, hR_0_24, hR_0_25, hR_0_26, hR_0_27, hR_0_28, hR_0_29, hR_0_30, hR_0_31, hR_0_32, hR_0_33, hR_0_34, hR_0_35, hR_0_36, hR_0_37, hR_0_38, hR_0_39, hR_0_40, hR_0_41, hR_0_42, hR_0_43, hR_0_44, hR_0_45, hR_0_46, hR_0_47, hR_0_48, hR_0_49, hR_0_50, hR_0_51, hR_0_52, hR_0_53, hR_0_54, hR_0_55, hR_0_56, hR_0_57, hR_0_58, hR_0_59, hR_0_60, hR_0_61, hR_0_62, hR_0_63, hR_0_64, hR_0_65, hR_0_66, hR_0_67, hR_0_68, hR_0_69, hR_0_70, hR_0_71, hR_0_72, hR_0_73, hR_0_74, hR_0_75, hR_0_76, hR_0_77, hR_0_78, hR_0_79, hR_0_80, hR_0_81, hR_0_82, hR_0_83, hR_0_84, hR_0_85, hR_0_86, hR_0_87, hR_0_88, hR_0_89, hR_0_90, hR_1_0, hR_2_0, hR_3_0, hR_4_0, hR_5_0, hR_6_0, hR_7_0, hR_8_0, hR_9_0, hR_10_0, hR_11_0, hR_12_0, hR_13_0, hR_14_0, hR_15_0, hR_16_0, hR_17_0, hR_18_0, hR_19_0, hR_20_0, hR_21_0, hR_22_0, hR_23_0, hR_24_0, hR_25_0, hR_26_0, hR_27_0, r'.sc.1, k, a0, a6, eq_true c, hs, o4, e1 ()]
          refine fin _ _ r'.td f'.up (fun p q => by rw [up_i q]) ?_
          rw [up_s, seN, f0, if_neg (by decide), Nat.add_zero]
        · simp only [sX12_layToday_1, sX12_layToday_3, sX12_layToday_4, sX12_layToday_7, sX12_layToday_10, sX12_layToday_11, sX12_layToday_14, sX12_layToday_15, sX12_layToday_16, sX12_layToday_17, sX12_layToday_18, sX12_layToday_20, sX12_layToday_21, sX12_layToday_24, sX12_layToday_27, sX12_layToday_28, sX12_layToday_31, sX12_layToday_32, sX12_layToday_33, sX12_layToday_34, sX12_layToday_35, sX12_layToday_36, sX12_layToday_39, sX12_layToday_40, sX12_layToday_41, sX12_layToday_42, sX12_layToday_43, sX12_layToday_46, sX12_layToday_49, sX12_layToday_50, sX12_layToday_51, sX12_layToday_52, sX12_layToday_55, sX12_layToday_56, sX12_layToday_57, sX12_layToday_58, sX12_layToday_61, sX12_layToday_67, sX12_layToday_70, up_s, up_k, up_i, clr_n, clr_i, clr_j, clr_r, catS_n, catS_i, catS_j, catS_r, Option.toList_some, Option.toList_none, List.cons_append, List.nil_append, List.singleton_append, true_and, and_true, ne_eq, not_false_eq_true, not_true_eq_false, reduceCtorEq, if_true, if_false, true_or, or_true, false_or, or_false, Nat.reduceLT, Nat.reduceEqDiff, Nat.reduceAdd, Nat.reduceLeDiff, Int.reduceEq, Int.reduceNe, Int.reduceLT, Int.reduceLE, Int.reduceAdd, Int.reduceNeg, Int.reduceSub, Int.reduceMul, hR_0_0, hR_0_1, hR_0_2, hR_0_3, hR_0_4, hR_0_5, hR_0_6, hR_0_7, hR_0_8, hR_0_9, hR_0_10, hR_0_11, hR_0_12, hR_0_13, hR_0_14, hR_0_15, hR_0_16, hR_0_17, hR_0_18, hR_0_19, hR_0_20, hR_0_21, hR_0_22, hR_0_23, hR_0_24, hR_0_25, hR_0_26, hR_0_27, hR_0_28, hR_0_29, hR_0_30, hR_0_31, hR_0_32, hR_0_33, hR_0_34, hR_0_35, hR_0_36, hR_0_37, hR_0_38, hR_0_39, hR_0_40, hR_0_41, hR_0_42, hR_0_43, hR_0_44, hR_0_45, hR_0_46, hR_0_47, hR_0_48, hR_0_49, hR_0_50, hR_0_51, hR_0_52, hR_0_53, hR_0_54, hR_0_55, hR_0_56, hR_0_57, hR_0_58, hR_0_59, hR_0_60, hR_0_61, hR_0_62, hR_0_63, hR_0_64, hR_0_65, hR_0_66, hR_0_67, hR_0_68, hR_0_69, hR_0_70, hR_0_71, hR_0_72, hR_0_73, hR_0_74, hR_0_75, hR_0_76, hR_0_77, hR_0_78, hR_0_79, hR_0_80, hR_0_81, hR_0_82, hR_0_83, hR_0_84, hR_0_85, hR_0_86, hR_0_87, hR_0_88, hR_0_89, hR_0_90, hR_1_0, hR_2_0, hR_3_0, hR_4_0, hR_5_0, hR_6_0, hR_7_0, hR_8_0, hR_9_0, hR_10_0, hR_11_0, hR_12_0, hR_13_0, hR_14_0, hR_15_0, hR_16_0, hR_17_0, hR_18_0, hR_19_0, hR_20_0, hR_21_0, hR_22_0, hR_23_0, hR_24_0, hR_25_0, hR_26_0, hR_27_0, r'.sc.1, k, a0, a6, c, hs]
          refine R_od (by omega) r' ⟨a0, a1⟩ ⟨by omega, by omega⟩ hx (fun τ2 t2 r2 f2 => ?_)
          have h6 : ∀ i, τ2 16 i = τ 16 i := fun i => f2 16 i (by omega)
          by_cases o : od M Ls a b x = true
          · have f0 : tdF M Ls x a b = true := by unfold tdF; rw [decide_eq_true (show ¬ (b : Int) = a from fun q => c q.symm), Bool.true_and]; exact o
            rw [bz_t o]
            simp only [sX12_layToday_1, sX12_layToday_3, sX12_layToday_4, sX12_layToday_7, sX12_layToday_10, sX12_layToday_11, sX12_layToday_14, sX12_layToday_15, sX12_layToday_16, sX12_layToday_17, sX12_layToday_18, sX12_layToday_20, sX12_layToday_21, sX12_layToday_24, sX12_layToday_27, sX12_layToday_28, sX12_layToday_31, sX12_layToday_32, sX12_layToday_33, sX12_layToday_34, sX12_layToday_35, sX12_layToday_36, sX12_layToday_39, sX12_layToday_40, sX12_layToday_41, sX12_layToday_42, sX12_layToday_43, sX12_layToday_46, sX12_layToday_49, sX12_layToday_50, sX12_layToday_51, sX12_layToday_52, sX12_layToday_55, sX12_layToday_56, sX12_layToday_57, sX12_layToday_58, sX12_layToday_61, sX12_layToday_67, sX12_layToday_70, up_s, up_k, up_i, clr_n, clr_i, clr_j, clr_r, catS_n, catS_i, catS_j, catS_r, Option.toList_some, Option.toList_none, List.cons_append, List.nil_append, List.singleton_append, true_and, and_true, ne_eq, not_false_eq_true, not_true_eq_false, reduceCtorEq, if_true, if_false, true_or, or_true, false_or, or_false, Nat.reduceLT, Nat.reduceEqDiff, Nat.reduceAdd, Nat.reduceLeDiff, Int.reduceEq, Int.reduceNe, Int.reduceLT, Int.reduceLE, Int.reduceAdd, Int.reduceNeg, Int.reduceSub, Int.reduceMul, hR_0_0, hR_0_1, hR_0_2, hR_0_3, hR_0_4, hR_0_5, hR_0_6, hR_0_7, hR_0_8, hR_0_9, hR_0_10, hR_0_11, hR_0_12, hR_0_13, hR_0_14, hR_0_15, hR_0_16, hR_0_17, hR_0_18, hR_0_19, hR_0_20, hR_0_21, hR_0_22, hR_0_23, hR_0_24, hR_0_25, hR_0_26, hR_0_27, hR_0_28, hR_0_29, hR_0_30, hR_0_31, hR_0_32, hR_0_33, hR_0_34, hR_0_35, hR_0_36, hR_0_37, hR_0_38, hR_0_39, hR_0_40, hR_0_41, hR_0_42, hR_0_43, hR_0_44, hR_0_45, hR_0_46, hR_0_47, hR_0_48, hR_0_49, hR_0_50, hR_0_51, hR_0_52, hR_0_53, hR_0_54, hR_0_55, hR_0_56, hR_0_57, hR_0_58, hR_0_59, hR_0_60, hR_0_61, hR_0_62, hR_0_63, hR_0_64, hR_0_65, hR_0_66, hR_0_67, hR_0_68, hR_0_69, hR_0_70, hR_0_71, hR_0_72, hR_0_73, hR_0_74, hR_0_75, hR_0_76, hR_0_77, hR_0_78, hR_0_79, hR_0_80, hR_0_81, hR_0_82, hR_0_83, hR_0_84, hR_0_85, hR_0_86, hR_0_87, hR_0_88, hR_0_89, hR_0_90, hR_1_0, hR_2_0, hR_3_0, hR_4_0, hR_5_0, hR_6_0, hR_7_0, hR_8_0, hR_9_0, hR_10_0, hR_11_0, hR_12_0, hR_13_0, hR_14_0, hR_15_0, hR_16_0, hR_17_0, hR_18_0, hR_19_0, hR_20_0, hR_21_0, hR_22_0, hR_23_0, hR_24_0, hR_25_0, hR_26_0, hR_27_0, a0, a6, o3, e1 ()]
            refine fin _ _ r2.td (f'.tr f2.tt).up (fun p q => by rw [up_i q, h6]) ?_
            rw [up_s, seN, if_pos f0]
          · have f0 : tdF M Ls x a b = false := by unfold tdF; rw [decide_eq_true (show ¬ (b : Int) = a from fun q => c q.symm), Bool.true_and]; exact Bool.eq_false_iff.mpr o
            rw [bz_f o]
            simp only [sX12_layToday_1, sX12_layToday_3, sX12_layToday_4, sX12_layToday_7, sX12_layToday_10, sX12_layToday_11, sX12_layToday_14, sX12_layToday_15, sX12_layToday_16, sX12_layToday_17, sX12_layToday_18, sX12_layToday_20, sX12_layToday_21, sX12_layToday_24, sX12_layToday_27, sX12_layToday_28, sX12_layToday_31, sX12_layToday_32, sX12_layToday_33, sX12_layToday_34, sX12_layToday_35, sX12_layToday_36, sX12_layToday_39, sX12_layToday_40, sX12_layToday_41, sX12_layToday_42, sX12_layToday_43, sX12_layToday_46, sX12_layToday_49, sX12_layToday_50, sX12_layToday_51, sX12_layToday_52, sX12_layToday_55, sX12_layToday_56, sX12_layToday_57, sX12_layToday_58, sX12_layToday_61, sX12_layToday_67, sX12_layToday_70, up_s, up_k, up_i, clr_n, clr_i, clr_j, clr_r, catS_n, catS_i, catS_j, catS_r, Option.toList_some, Option.toList_none, List.cons_append, List.nil_append, List.singleton_append, true_and, and_true, ne_eq, not_false_eq_true, not_true_eq_false, reduceCtorEq, if_true, if_false, true_or, or_true, false_or, or_false, Nat.reduceLT, Nat.reduceEqDiff, Nat.reduceAdd, Nat.reduceLeDiff, Int.reduceEq, Int.reduceNe, Int.reduceLT, Int.reduceLE, Int.reduceAdd, Int.reduceNeg, Int.reduceSub, Int.reduceMul, hR_0_0, hR_0_1, hR_0_2, hR_0_3, hR_0_4, hR_0_5, hR_0_6, hR_0_7, hR_0_8, hR_0_9, hR_0_10, hR_0_11, hR_0_12, hR_0_13, hR_0_14, hR_0_15, hR_0_16, hR_0_17, hR_0_18, hR_0_19, hR_0_20, hR_0_21, hR_0_22, hR_0_23, hR_0_24, hR_0_25, hR_0_26, hR_0_27, hR_0_28, hR_0_29, hR_0_30, hR_0_31, hR_0_32, hR_0_33, hR_0_34, hR_0_35, hR_0_36, hR_0_37, hR_0_38, hR_0_39, hR_0_40, hR_0_41, hR_0_42, hR_0_43, hR_0_44, hR_0_45, hR_0_46, hR_0_47, hR_0_48, hR_0_49, hR_0_50, hR_0_51, hR_0_52, hR_0_53, hR_0_54, hR_0_55, hR_0_56, hR_0_57, hR_0_58, hR_0_59, hR_0_60, hR_0_61, hR_0_62, hR_0_63, hR_0_64, hR_0_65, hR_0_66, hR_0_67, hR_0_68, hR_0_69, hR_0_70, hR_0_71, hR_0_72, hR_0_73, hR_0_74, hR_0_75, hR_0_76, hR_0_77, hR_0_78, hR_0_79, hR_0_80, hR_0_81, hR_0_82, hR_0_83, hR_0_84, hR_0_85, hR_0_86, hR_0_87, hR_0_88, hR_0_89, hR_0_90, hR_1_0, hR_2_0, hR_3_0, hR_4_0, hR_5_0, hR_6_0, hR_7_0, hR_8_0, hR_9_0, hR_10_0, hR_11_0, hR_12_0, hR_13_0, hR_14_0, hR_15_0, hR_16_0, hR_17_0, hR_18_0, hR_19_0, hR_20_0, hR_21_0, hR_22_0, hR_23_0, hR_24_0, hR_25_0, hR_26_0, hR_27_0, a0, a6, o4, e1 ()]
            refine fin _ _ r2.td (f'.tr f2.tt).up (fun p q => by rw [up_i q, h6]) ?_
            rw [up_s, seN, f0, if_neg (by decide), Nat.add_zero]
  have outer : ∀ (g : Nat) (τ : Sto) (t' : Nat) (a : Int) (x3 : Option AV), M 0 0 - a < g → 0 ≤ a → a ≤ M 0 0 → RepR t' τ M Ls → FrT σ τ → (∀ p, 0 ≤ p → p < a → τ 16 p = tdN M Ls x p) → Ex (d + 34) mX12_layToday 2 [(some (.inr (.inr (some (0))))), (some (.inl (x))), (some (.inl (a))), x3] [] (shR t') τ Q := by
    intro g
    induction g with
    | zero => intros; omega
    | succ g ih =>
      intro τ t' a x3 hg a0 a1 r' f' hp
      have a3 : w32 (a + 1) = a + 1 := w32_of ⟨by omega, by omega⟩
      rw [sX12_layToday_2]
      by_cases k : M 0 0 ≤ a
      · simp only [sX12_layToday_1, sX12_layToday_3, sX12_layToday_4, sX12_layToday_7, sX12_layToday_10, sX12_layToday_11, sX12_layToday_14, sX12_layToday_15, sX12_layToday_16, sX12_layToday_17, sX12_layToday_18, sX12_layToday_20, sX12_layToday_21, sX12_layToday_24, sX12_layToday_27, sX12_layToday_28, sX12_layToday_31, sX12_layToday_32, sX12_layToday_33, sX12_layToday_34, sX12_layToday_35, sX12_layToday_36, sX12_layToday_39, sX12_layToday_40, sX12_layToday_41, sX12_layToday_42, sX12_layToday_43, sX12_layToday_46, sX12_layToday_49, sX12_layToday_50, sX12_layToday_51, sX12_layToday_52, sX12_layToday_55, sX12_layToday_56, sX12_layToday_57, sX12_layToday_58, sX12_layToday_61, sX12_layToday_64, sX12_layToday_67, sX12_layToday_70, up_s, up_k, up_i, clr_n, clr_i, clr_j, clr_r, catS_n, catS_i, catS_j, catS_r, Option.toList_some, Option.toList_none, List.cons_append, List.nil_append, List.singleton_append, true_and, and_true, ne_eq, not_false_eq_true, not_true_eq_false, reduceCtorEq, if_true, if_false, true_or, or_true, false_or, or_false, Nat.reduceLT, Nat.reduceEqDiff, Nat.reduceAdd, Nat.reduceLeDiff, Int.reduceEq, Int.reduceNe, Int.reduceLT, Int.reduceLE, Int.reduceAdd, Int.reduceNeg, Int.reduceSub, Int.reduceMul, hR_0_0, hR_0_1, hR_0_2, hR_0_3, hR_0_4, hR_0_5, hR_0_6, hR_0_7, hR_0_8, hR_0_9, hR_0_10, hR_0_11, hR_0_12, hR_0_13, hR_0_14, hR_0_15, hR_0_16, hR_0_17, hR_0_18, hR_0_19, hR_0_20, hR_0_21, hR_0_22, hR_0_23, hR_0_24, hR_0_25, hR_0_26, hR_0_27, hR_0_28, hR_0_29, hR_0_30, hR_0_31, hR_0_32, hR_0_33, hR_0_34, hR_0_35, hR_0_36, hR_0_37, hR_0_38, hR_0_39, hR_0_40, hR_0_41, hR_0_42, hR_0_43, hR_0_44, hR_0_45, hR_0_46, hR_0_47, hR_0_48, hR_0_49, hR_0_50, hR_0_51, hR_0_52, hR_0_53, hR_0_54, hR_0_55, hR_0_56, hR_0_57, hR_0_58, hR_0_59, hR_0_60, hR_0_61, hR_0_62, hR_0_63, hR_0_64, hR_0_65, hR_0_66, hR_0_67, hR_0_68, hR_0_69, hR_0_70, hR_0_71, hR_0_72, hR_0_73, hR_0_74, hR_0_75, hR_0_76, hR_0_77, hR_0_78, hR_0_79, hR_0_80, hR_0_81, hR_0_82, hR_0_83, hR_0_84, hR_0_85, hR_0_86, hR_0_87, hR_0_88, hR_0_89, hR_0_90, hR_1_0, hR_2_0, hR_3_0, hR_4_0, hR_5_0, hR_6_0, hR_7_0, hR_8_0, hR_9_0, hR_10_0, hR_11_0, hR_12_0, hR_13_0, hR_14_0, hR_15_0, hR_16_0, hR_17_0, hR_18_0, hR_19_0, hR_20_0, hR_21_0, hR_22_0, hR_23_0, hR_24_0, hR_25_0, hR_26_0, hR_27_0, r'.sc.1, k]
        exact hQ τ t' r' f' (fun p p0 p1 => hp p p0 (by omega))
      · have a6 : a < 6 := by omega
        simp only [sX12_layToday_1, sX12_layToday_3, sX12_layToday_4, sX12_layToday_7, sX12_layToday_10, sX12_layToday_11, sX12_layToday_14, sX12_layToday_15, sX12_layToday_16, sX12_layToday_17, sX12_layToday_18, sX12_layToday_20, sX12_layToday_21, sX12_layToday_24, sX12_layToday_27, sX12_layToday_28, sX12_layToday_31, sX12_layToday_32, sX12_layToday_33, sX12_layToday_34, sX12_layToday_35, sX12_layToday_36, sX12_layToday_39, sX12_layToday_40, sX12_layToday_41, sX12_layToday_42, sX12_layToday_43, sX12_layToday_46, sX12_layToday_49, sX12_layToday_50, sX12_layToday_51, sX12_layToday_52, sX12_layToday_55, sX12_layToday_56, sX12_layToday_57, sX12_layToday_58, sX12_layToday_61, sX12_layToday_64, sX12_layToday_67, sX12_layToday_70, up_s, up_k, up_i, clr_n, clr_i, clr_j, clr_r, catS_n, catS_i, catS_j, catS_r, Option.toList_some, Option.toList_none, List.cons_append, List.nil_append, List.singleton_append, true_and, and_true, ne_eq, not_false_eq_true, not_true_eq_false, reduceCtorEq, if_true, if_false, true_or, or_true, false_or, or_false, Nat.reduceLT, Nat.reduceEqDiff, Nat.reduceAdd, Nat.reduceLeDiff, Int.reduceEq, Int.reduceNe, Int.reduceLT, Int.reduceLE, Int.reduceAdd, Int.reduceNeg, Int.reduceSub, Int.reduceMul, hR_0_0, hR_0_1, hR_0_2, hR_0_3, hR_0_4, hR_0_5, hR_0_6, hR_0_7, hR_0_8, hR_0_9, hR_0_10, hR_0_11, hR_0_12, hR_0_13, hR_0_14, hR_0_15, hR_0_16, hR_0_17, hR_0_18, hR_0_19, hR_0_20, hR_0_21, hR_0_22, hR_0_23, hR_0_24, hR_0_25, hR_0_26, hR_0_27, hR_0_28, hR_0_29, hR_0_30, hR_0_31, hR_0_32, hR_0_33, hR_0_34, hR_0_35, hR_0_36, hR_0_37, hR_0_38, hR_0_39, hR_0_40, hR_0_41, hR_0_42, hR_0_43, hR_0_44, hR_0_45, hR_0_46, hR_0_47, hR_0_48, hR_0_49, hR_0_50, hR_0_51, hR_0_52, hR_0_53, hR_0_54, hR_0_55, hR_0_56, hR_0_57, hR_0_58, hR_0_59, hR_0_60, hR_0_61, hR_0_62, hR_0_63, hR_0_64, hR_0_65, hR_0_66, hR_0_67, hR_0_68, hR_0_69, hR_0_70, hR_0_71, hR_0_72, hR_0_73, hR_0_74, hR_0_75, hR_0_76, hR_0_77, hR_0_78, hR_0_79, hR_0_80, hR_0_81, hR_0_82, hR_0_83, hR_0_84, hR_0_85, hR_0_86, hR_0_87, hR_0_88, hR_0_89, hR_0_90, hR_1_0, hR_2_0, hR_3_0, hR_4_0, hR_5_0, hR_6_0, hR_7_0, hR_8_0, hR_9_0, hR_10_0, hR_11_0, hR_12_0, hR_13_0, hR_14_0, hR_15_0, hR_16_0, hR_17_0, hR_18_0, hR_19_0, hR_20_0, hR_21_0, hR_22_0, hR_23_0, hR_24_0, hR_25_0, hR_26_0, hR_27_0, r'.sc.1, k, a0, a6]
        refine inner ((M 0 0).toNat + 1) _ t' a 0 (by omega) a0 (by omega) (by omega) r'.td f'.up (fun p p0 p1 => by rw [up_i (by omega)]; exact hp p p0 p1) (by rw [up_s]; rfl) (fun τ2 t2 y r2 f2 h2 => ?_)
        simp only [sX12_layToday_1, sX12_layToday_3, sX12_layToday_4, sX12_layToday_7, sX12_layToday_10, sX12_layToday_11, sX12_layToday_14, sX12_layToday_15, sX12_layToday_16, sX12_layToday_17, sX12_layToday_18, sX12_layToday_20, sX12_layToday_21, sX12_layToday_24, sX12_layToday_27, sX12_layToday_28, sX12_layToday_31, sX12_layToday_32, sX12_layToday_33, sX12_layToday_34, sX12_layToday_35, sX12_layToday_36, sX12_layToday_39, sX12_layToday_40, sX12_layToday_41, sX12_layToday_42, sX12_layToday_43, sX12_layToday_46, sX12_layToday_49, sX12_layToday_50, sX12_layToday_51, sX12_layToday_52, sX12_layToday_55, sX12_layToday_56, sX12_layToday_57, sX12_layToday_58, sX12_layToday_61, sX12_layToday_64, sX12_layToday_67, sX12_layToday_70, up_s, up_k, up_i, clr_n, clr_i, clr_j, clr_r, catS_n, catS_i, catS_j, catS_r, Option.toList_some, Option.toList_none, List.cons_append, List.nil_append, List.singleton_append, true_and, and_true, ne_eq, not_false_eq_true, not_true_eq_false, reduceCtorEq, if_true, if_false, true_or, or_true, false_or, or_false, Nat.reduceLT, Nat.reduceEqDiff, Nat.reduceAdd, Nat.reduceLeDiff, Int.reduceEq, Int.reduceNe, Int.reduceLT, Int.reduceLE, Int.reduceAdd, Int.reduceNeg, Int.reduceSub, Int.reduceMul, hR_0_0, hR_0_1, hR_0_2, hR_0_3, hR_0_4, hR_0_5, hR_0_6, hR_0_7, hR_0_8, hR_0_9, hR_0_10, hR_0_11, hR_0_12, hR_0_13, hR_0_14, hR_0_15, hR_0_16, hR_0_17, hR_0_18, hR_0_19, hR_0_20, hR_0_21, hR_0_22, hR_0_23, hR_0_24, hR_0_25, hR_0_26, hR_0_27, hR_0_28, hR_0_29, hR_0_30, hR_0_31, hR_0_32, hR_0_33, hR_0_34, hR_0_35, hR_0_36, hR_0_37, hR_0_38, hR_0_39, hR_0_40, hR_0_41, hR_0_42, hR_0_43, hR_0_44, hR_0_45, hR_0_46, hR_0_47, hR_0_48, hR_0_49, hR_0_50, hR_0_51, hR_0_52, hR_0_53, hR_0_54, hR_0_55, hR_0_56, hR_0_57, hR_0_58, hR_0_59, hR_0_60, hR_0_61, hR_0_62, hR_0_63, hR_0_64, hR_0_65, hR_0_66, hR_0_67, hR_0_68, hR_0_69, hR_0_70, hR_0_71, hR_0_72, hR_0_73, hR_0_74, hR_0_75, hR_0_76, hR_0_77, hR_0_78, hR_0_79, hR_0_80, hR_0_81, hR_0_82, hR_0_83, hR_0_84, hR_0_85, hR_0_86, hR_0_87, hR_0_88, hR_0_89, hR_0_90, hR_1_0, hR_2_0, hR_3_0, hR_4_0, hR_5_0, hR_6_0, hR_7_0, hR_8_0, hR_9_0, hR_10_0, hR_11_0, hR_12_0, hR_13_0, hR_14_0, hR_15_0, hR_16_0, hR_17_0, hR_18_0, hR_19_0, hR_20_0, hR_21_0, hR_22_0, hR_23_0, hR_24_0, hR_25_0, hR_26_0, hR_27_0, a3]
        exact ih τ2 t2 (a + 1) y (by omega) (by omega) (by omega) r2 f2 h2
  rw [sX12_layToday_0]
  simp only [sX12_layToday_1, sX12_layToday_3, sX12_layToday_4, sX12_layToday_7, sX12_layToday_10, sX12_layToday_11, sX12_layToday_14, sX12_layToday_15, sX12_layToday_16, sX12_layToday_17, sX12_layToday_18, sX12_layToday_20, sX12_layToday_21, sX12_layToday_24, sX12_layToday_27, sX12_layToday_28, sX12_layToday_31, sX12_layToday_32, sX12_layToday_33, sX12_layToday_34, sX12_layToday_35, sX12_layToday_36, sX12_layToday_39, sX12_layToday_40, sX12_layToday_41, sX12_layToday_42, sX12_layToday_43, sX12_layToday_46, sX12_layToday_49, sX12_layToday_50, sX12_layToday_51, sX12_layToday_52, sX12_layToday_55, sX12_layToday_56, sX12_layToday_57, sX12_layToday_58, sX12_layToday_61, sX12_layToday_64, sX12_layToday_67, sX12_layToday_70, up_s, up_k, up_i, clr_n, clr_i, clr_j, clr_r, catS_n, catS_i, catS_j, catS_r, Option.toList_some, Option.toList_none, List.cons_append, List.nil_append, List.singleton_append, true_and, and_true, ne_eq, not_false_eq_true, not_true_eq_false, reduceCtorEq, if_true, if_false, true_or, or_true, false_or, or_false, Nat.reduceLT, Nat.reduceEqDiff, Nat.reduceAdd, Nat.reduceLeDiff, Int.reduceEq, Int.reduceNe, Int.reduceLT, Int.reduceLE, Int.reduceAdd, Int.reduceNeg, Int.reduceSub, Int.reduceMul, hR_0_0, hR_0_1, hR_0_2, hR_0_3, hR_0_4, hR_0_5, hR_0_6, hR_0_7, hR_0_8, hR_0_9, hR_0_10, hR_0_11, hR_0_12, hR_0_13, hR_0_14, hR_0_15, hR_0_16, hR_0_17, hR_0_18, hR_0_19, hR_0_20, hR_0_21, hR_0_22, hR_0_23, hR_0_24, hR_0_25, hR_0_26, hR_0_27, hR_0_28, hR_0_29, hR_0_30, hR_0_31, hR_0_32, hR_0_33, hR_0_34, hR_0_35, hR_0_36, hR_0_37, hR_0_38, hR_0_39, hR_0_40, hR_0_41, hR_0_42, hR_0_43, hR_0_44, hR_0_45, hR_0_46, hR_0_47, hR_0_48, hR_0_49, hR_0_50, hR_0_51, hR_0_52, hR_0_53, hR_0_54, hR_0_55, hR_0_56, hR_0_57, hR_0_58, hR_0_59, hR_0_60, hR_0_61, hR_0_62, hR_0_63, hR_0_64, hR_0_65, hR_0_66, hR_0_67, hR_0_68, hR_0_69, hR_0_70, hR_0_71, hR_0_72, hR_0_73, hR_0_74, hR_0_75, hR_0_76, hR_0_77, hR_0_78, hR_0_79, hR_0_80, hR_0_81, hR_0_82, hR_0_83, hR_0_84, hR_0_85, hR_0_86, hR_0_87, hR_0_88, hR_0_89, hR_0_90, hR_1_0, hR_2_0, hR_3_0, hR_4_0, hR_5_0, hR_6_0, hR_7_0, hR_8_0, hR_9_0, hR_10_0, hR_11_0, hR_12_0, hR_13_0, hR_14_0, hR_15_0, hR_16_0, hR_17_0, hR_18_0, hR_19_0, hR_20_0, hR_21_0, hR_22_0, hR_23_0, hR_24_0, hR_25_0, hR_26_0, hR_27_0]
  exact outer ((M 0 0).toNat + 1) σ t 0 none (by omega) (by omega) (by omega) r FrT.rf (fun p p0 p1 => by omega)
theorem nd6 : ∀ x y : Fin 64, 0 ≤ zand (x.val : Int) (zxor (y.val : Int) (-1)) ∧ zand (x.val : Int) (zxor (y.val : Int) (-1)) < 64 ∧ (zand (x.val : Int) (zxor (y.val : Int) (-1))).toNat = x.val &&& (63 - y.val) := by decide +kernel
theorem ng6 : ∀ y : Fin 64, ∀ v : Fin 6, (63 - y.val).testBit v.val = !y.val.testBit v.val := by decide +kernel
theorem peI.nd {x y : Int} {f g : Int → Bool} (h : peI x f) (h' : peI y g) : peI (zand x (zxor y (-1))) (fun v => f v && !g v) := by
  obtain ⟨a0, a1, a2⟩ := h
  obtain ⟨b0, b1, b2⟩ := h'
  have s := nd6 ⟨x.toNat, by omega⟩ ⟨y.toNat, by omega⟩
  simp only [show ((x.toNat : Nat) : Int) = x by omega, show ((y.toNat : Nat) : Int) = y by omega] at s
  refine ⟨s.1, s.2.1, fun v v0 v1 => ?_⟩
  have n6 := ng6 ⟨y.toNat, by omega⟩ ⟨v.toNat, by omega⟩
  simp only at n6
  rw [s.2.2, Nat.testBit_and, n6, a2 v v0 v1, b2 v v0 v1]
theorem one6 : ∀ p : Fin 6, zshl 1 (p.val : Int) = ((2 ^ p.val : Nat) : Int) ∧ 2 ^ p.val < 64 := by decide
theorem peI_1 {p : Int} (p0 : 0 ≤ p) (p1 : p < 6) : peI (zshl 1 p) (fun v => decide (v = p)) := by
  have s := one6 ⟨p.toNat, by omega⟩
  simp only [show ((p.toNat : Nat) : Int) = p by omega] at s
  refine ⟨by rw [s.1]; exact Int.natCast_nonneg _, by rw [s.1]; omega, fun v v0 v1 => ?_⟩
  rw [s.1, Int.toNat_natCast, Nat.testBit_two_pow]
  exact decide_eq_decide.mpr (by omega)
/-- two of a set don't clash on a day -/
def ncB (M : Sto) (Ls : List (List Cl)) (x : Int) (s : Nat) : Bool := anN (fun a => anN (fun b => decide (a < b) && (s.testBit a.toNat && s.testBit b.toNat && !od M Ls a b x)) (M 0 0).toNat) (M 0 0).toNat
theorem nc_iff {x : Int} {s : Nat} : ncB M Ls x s = true ↔ ∃ a b, 0 ≤ a ∧ a < b ∧ b < M 0 0 ∧ s.testBit a.toNat = true ∧ s.testBit b.toNat = true ∧ od M Ls a b x = false := by
  unfold ncB
  rw [anN_iff]
  constructor
  · rintro ⟨a, a0, a1, q⟩
    rw [anN_iff] at q
    obtain ⟨b, b0, b1, q⟩ := q
    rw [Bool.and_eq_true, Bool.and_eq_true, Bool.and_eq_true, decide_eq_true_eq, Bool.not_eq_true'] at q
    exact ⟨a, b, a0, q.1, by omega, q.2.1.1, q.2.1.2, q.2.2⟩
  · rintro ⟨a, b, a0, ab, bp, h1, h2, h3⟩
    refine ⟨a, a0, by omega, (anN_iff _ _).mpr ⟨b, by omega, by omega, ?_⟩⟩
    rw [h1, h2, h3, decide_eq_true ab]; rfl
/-- one of a set has somebody in it with whom he doesn't clash on the day -/
def ndB (M : Sto) (Ls : List (List Cl)) (x : Int) (s : Nat) (p : Int) : Bool := s.testBit p.toNat && decide (¬ zand (zand (s : Int) (zxor (tdN M Ls x p : Int) (-1))) (zxor (zshl 1 p) (-1)) = 0)
theorem ne_lt {s : Nat} {v : Int} (w : wfM M Ls) (hs : s ≤ evN M) (h : s.testBit v.toNat = true) (v0 : 0 ≤ v) : v < M 0 0 := by
  refine Classical.byContradiction (fun q => ?_)
  have u := w.sc
  have l : 2 ^ (M 0 0).toNat ≤ 2 ^ v.toNat := Nat.pow_le_pow_right (by omega) (by omega)
  unfold evN at hs
  have p0 : 0 < 2 ^ (M 0 0).toNat := Nat.pow_pos (by omega)
  rw [Nat.testBit_lt_two_pow (by omega)] at h
  cases h
theorem nd_nc {x : Int} {s : Nat} (w : wfM M Ls) (hs : s ≤ evN M) : anN (ndB M Ls x s) (M 0 0).toNat = ncB M Ls x s := by
  have u := w.sc
  have s6 : s < 64 := by have := ev_lt w; omega
  have z : ∀ p, 0 ≤ p → p < M 0 0 → (zand (zand (s : Int) (zxor (tdN M Ls x p : Int) (-1))) (zxor (zshl 1 p) (-1)) = 0 ↔ ∀ v, 0 ≤ v → v < M 0 0 → s.testBit v.toNat = true → ¬ v = p → od M Ls p v x = true) := by
    intro p p0 p1
    have pp := ((peI_n s6).nd (se_st (f := tdF M Ls x p) u.1 u.2.1)).nd (peI_1 p0 (by omega))
    rw [show (seN (tdF M Ls x p) (M 0 0).toNat : Nat) = tdN M Ls x p from rfl] at pp
    rw [pp.zero]
    constructor
    · intro q v v0 v1 h1 h2
      have := q v v0 (by omega)
      rw [h1, decide_eq_true v1, decide_eq_false h2, Bool.true_and, Bool.true_and, Bool.not_false, Bool.and_true] at this
      unfold tdF at this
      rw [decide_eq_true h2, Bool.true_and] at this
      cases o : od M Ls p v x with
      | true => rfl
      | false => rw [o] at this; cases this
    · intro q v v0 v1
      by_cases h2 : v = p
      · rw [decide_eq_true h2, Bool.not_true, Bool.and_false]
      · by_cases h1 : s.testBit v.toNat = true
        · have v2 := ne_lt w hs h1 v0
          unfold tdF
          rw [h1, decide_eq_true v2, decide_eq_true h2, q v v0 v2 h1 h2]; rfl
        · rw [Bool.eq_false_iff.mpr h1, Bool.false_and, Bool.false_and]
  rw [Bool.eq_iff_iff, anN_iff, nc_iff]
  constructor
  · rintro ⟨p, p0, p1, q⟩
    unfold ndB at q
    rw [Bool.and_eq_true, decide_eq_true_eq] at q
    have : ∃ v, 0 ≤ v ∧ v < M 0 0 ∧ s.testBit v.toNat = true ∧ ¬ v = p ∧ od M Ls p v x = false := by
      refine Classical.byContradiction (fun h => q.2 ((z p p0 (by omega)).mpr (fun v v0 v1 h1 h2 => ?_)))
      cases o : od M Ls p v x with
      | true => rfl
      | false => exact absurd ⟨v, v0, v1, h1, h2, o⟩ h
    obtain ⟨v, v0, v1, h1, h2, h3⟩ := this
    by_cases c : p < v
    · exact ⟨p, v, p0, c, v1, q.1, h1, h3⟩
    · exact ⟨v, p, v0, by omega, by omega, h1, q.1, by rw [od_comm]; exact h3⟩
  · rintro ⟨a, b, a0, ab, bp, h1, h2, o⟩
    refine ⟨a, a0, by omega, ?_⟩
    unfold ndB
    rw [h1, Bool.true_and]
    refine decide_eq_true (fun q => ?_)
    rw [(z a a0 (by omega)).mp q b (by omega) bp h2 (by omega)] at o
    cases o
end
