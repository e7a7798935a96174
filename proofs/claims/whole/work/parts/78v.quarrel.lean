section
variable {d : Nat} {sh : List Kd} {σ : Sto} {Q : Option AV → List Kd → Sto → Prop} {t : Nat} {M : Sto} {Ls : List (List Cl)}
theorem mkI.sub {x y : Int} {f g : Int → Int → Bool} (h : mkI x f) (h' : mkI y g) : zand x y = y ↔ ∀ a b, isPa a b → g a b = true → f a b = true := by
  have hh := h.and h'
  constructor
  · intro e a b p q
    rw [e] at hh
    have := (hh.2.2 a b p).symm.trans (h'.2.2 a b p)
    dsimp only at this
    rw [q, Bool.and_true] at this
    exact this
  · intro e
    refine mkI.eq hh (h'.cg (fun a b p => ?_))
    cases z : g a b with
    | true => rw [e a b p z]; rfl
    | false => rw [Bool.and_false]
def onB (M : Sto) (Ls : List (List Cl)) (n : Int) (s : Nat) : Bool := anN (fun k => !ncB M Ls (M 0 2 + k) s) n.toNat
theorem C_once {n y : Int} {s : Nat} (hl : lkS M Ls σ n) (hn : 0 ≤ n ∧ n ≤ 720) (w6 : M 0 0 ≤ 6) (hy : mkI y (psF M s)) : Ex d mX5_allAtOddsOnce 0 [(some (.inr (.inr (some (45))))), (some (.inl (y))), none] [] shC σ Q = Q (some (.inl (bz (onB M Ls n s = true)))) shC σ := by
  obtain ⟨l0, l1, l2, l3⟩ := hl
  have loop : ∀ (g : Nat) (k : Int), n - k < g → 0 ≤ k → k ≤ n → (∀ j, 0 ≤ j → j < k → ncB M Ls (M 0 2 + j) s = true) → Ex d mX5_allAtOddsOnce 2 [(some (.inr (.inr (some (45))))), (some (.inl (y))), (some (.inl (k)))] [] shC σ Q = Q (some (.inl (bz (onB M Ls n s = true)))) shC σ := by
    intro g
    induction g with
    | zero => intros; omega
    | succ g ih =>
      intro k hg k0 kn hf
      rw [sX5_allAtOddsOnce_2]
      by_cases c : n ≤ k
      · have z : onB M Ls n s = false := anN_f (fun j j0 j1 => by rw [hf j j0 (by omega)]; rfl)
        rw [bz_f (by rw [z]; decide)]
        simp only [sX5_allAtOddsOnce_1, sX5_allAtOddsOnce_3, sX5_allAtOddsOnce_4, sX5_allAtOddsOnce_7, sX5_allAtOddsOnce_10, sX5_allAtOddsOnce_11, sX5_allAtOddsOnce_14, sX5_allAtOddsOnce_15, sX5_allAtOddsOnce_16, sX5_allAtOddsOnce_17, sX5_allAtOddsOnce_18, sX5_allAtOddsOnce_19, sX5_allAtOddsOnce_22, sX5_allAtOddsOnce_23, sX5_allAtOddsOnce_24, sX5_allAtOddsOnce_27, sX5_allAtOddsOnce_30, sX5_allAtOddsOnce_31, up_s, up_k, up_i, clr_n, clr_i, clr_j, clr_r, catS_n, catS_i, catS_j, catS_r, Option.toList_some, Option.toList_none, List.cons_append, List.nil_append, List.singleton_append, true_and, and_true, ne_eq, not_false_eq_true, not_true_eq_false, reduceCtorEq, if_true, if_false, true_or, or_true, false_or, or_false, Nat.reduceLT, Nat.reduceEqDiff, Nat.reduceAdd, Nat.reduceLeDiff, Int.reduceEq, Int.reduceNe, Int.reduceLT, Int.reduceLE, Int.reduceAdd, Int.reduceNeg, Int.reduceSub, Int.reduceMul, hC_0_0, hC_0_1, hC_0_2, hC_0_3, hC_0_4, hC_0_5, hC_0_6, hC_0_7, hC_0_8, hC_0_9, hC_0_10, hC_0_11, hC_0_12, hC_0_13, hC_0_14, hC_0_15, hC_0_16, hC_1_0, hC_1_1, hC_1_2, hC_1_3, hC_1_4, hC_1_5, hC_2_0, hC_3_0, hC_3_1, hC_3_2, hC_3_3, hC_3_4, hC_3_5, hC_3_6, hC_3_7, hC_3_8, hC_3_9, hC_3_10, hC_3_11, hC_3_12, hC_4_0, hC_5_0, hC_6_0, hC_7_0, hC_8_0, hC_9_0, hC_9_1, hC_9_2, hC_10_0, hC_10_1, hC_10_2, hC_10_3, hC_10_4, hC_10_5, hC_10_6, hC_10_7, hC_10_8, hC_11_0, hC_12_0, hC_13_0, hC_14_0, hC_14_1, hC_14_2, hC_14_3, hC_14_4, hC_14_5, hC_14_6, hC_14_7, hC_14_8, hC_14_9, hC_14_10, hC_14_11, hC_14_12, hC_14_13, hC_14_14, hC_14_15, hC_14_16, hC_14_17, hC_14_18, hC_14_19, hC_14_20, hC_14_21, hC_14_22, hC_14_23, hC_15_0, hC_16_0, hC_17_0, hC_18_0, hC_18_1, hC_18_2, hC_18_3, hC_18_4, hC_19_0, hC_20_0, hC_20_1, hC_20_2, hC_20_3, hC_20_4, hC_20_5, hC_20_6, hC_20_7, hC_20_8, hC_21_0, hC_22_0, hC_23_0, hC_24_0, hC_24_1, hC_24_2, hC_24_3, hC_24_4, hC_24_5, hC_24_6, hC_24_7, hC_24_8, hC_25_0, hC_26_0, hC_27_0, hC_28_0, hC_28_1, hC_28_2, hC_28_3, hC_28_4, hC_28_5, hC_28_6, hC_28_7, hC_28_8, hC_29_0, hC_30_0, hC_31_0, hC_32_0, hC_32_1, hC_32_2, hC_32_3, hC_32_4, hC_32_5, hC_32_6, hC_32_7, hC_32_8, hC_33_0, hC_34_0, hC_35_0, hC_36_0, hC_36_1, hC_36_2, hC_36_3, hC_36_4, hC_36_5, hC_36_6, hC_36_7, hC_36_8, hC_37_0, hC_38_0, hC_39_0, hC_39_1, hC_39_2, hC_39_3, hC_39_4, hC_39_5, hC_39_6, hC_39_7, hC_39_8, hC_40_0, hC_41_0, hC_42_0, hC_43_0, hC_44_0, hC_45_0, hC_45_1, hC_45_2, hC_45_3, hC_45_4, hC_45_5, hC_46_0, hC_47_0, hC_47_1, hC_47_2, hC_47_3, hC_47_4, hC_47_5, hC_47_6, hC_47_7, hC_47_8, hC_47_9, hC_47_10, hC_47_11, hC_47_12, hC_47_13, hC_48_0, hC_49_0, hC_50_0, hC_51_0, hC_52_0, hC_52_1, hC_52_2, hC_52_3, hC_52_4, hC_52_5, hC_52_6, hC_52_7, hC_52_8, hC_52_9, hC_52_10, hC_52_11, hC_52_12, hC_52_13, hC_53_0, hC_54_0, hC_55_0, hC_56_0, hC_57_0, hC_58_0, hC_58_1, hC_58_2, hC_59_0, l1, c]
      · have k7 : k < 720 := by omega
        have a1 : w32 (k + 1) = k + 1 := w32_of ⟨by omega, by omega⟩
        have su := (l2 k k0 (by omega)).sub hy
        have key : zand (σ 46 k) y = y ↔ ncB M Ls (M 0 2 + k) s = false := by
          rw [su]
          constructor
          · intro q
            rw [Bool.eq_false_iff]
            intro h
            obtain ⟨a, b, a0, ab, bp, h1, h2, h3⟩ := nc_iff.mp h
            by_cases b6 : b < 6
            · have := q a b ⟨a0, ab, b6⟩ (by unfold psF; rw [h1, h2, decide_eq_true bp]; rfl)
              rw [h3, Bool.and_false] at this
              cases this
            · exact absurd bp (by omega)
          · intro q a b p h
            unfold psF at h
            rw [Bool.and_eq_true, Bool.and_eq_true, decide_eq_true_eq] at h
            dsimp only
            rw [decide_eq_true h.1, Bool.true_and]
            cases o : od M Ls a b (M 0 2 + k) with
            | true => rfl
            | false => rw [nc_iff.mpr ⟨a, b, p.1, p.2.1, h.1, h.2.1, h.2.2, o⟩] at q; cases q
        by_cases e : zand (σ 46 k) y = y
        · have z : onB M Ls n s = true := (anN_iff _ _).mpr ⟨k, k0, by omega, by rw [key.mp e]; rfl⟩
          rw [bz_t z]
          simp only [sX5_allAtOddsOnce_1, sX5_allAtOddsOnce_3, sX5_allAtOddsOnce_4, sX5_allAtOddsOnce_7, sX5_allAtOddsOnce_10, sX5_allAtOddsOnce_11, sX5_allAtOddsOnce_14, sX5_allAtOddsOnce_15, sX5_allAtOddsOnce_16, sX5_allAtOddsOnce_17, sX5_allAtOddsOnce_18, sX5_allAtOddsOnce_19, sX5_allAtOddsOnce_22, sX5_allAtOddsOnce_23, sX5_allAtOddsOnce_24, sX5_allAtOddsOnce_27, sX5_allAtOddsOnce_30, sX5_allAtOddsOnce_31, up_s, up_k, up_i, clr_n, clr_i, clr_j, clr_r, catS_n, catS_i, catS_j, catS_r, Option.toList_some, Option.toList_none, List.cons_append, List.nil_append, List.singleton_append, true_and, and_true, ne_eq, not_false_eq_true, not_true_eq_false, reduceCtorEq, if_true, if_false, true_or, or_true, false_or, or_false, Nat.reduceLT, Nat.reduceEqDiff, Nat.reduceAdd, Nat.reduceLeDiff, Int.reduceEq, Int.reduceNe, Int.reduceLT, Int.reduceLE, Int.reduceAdd, Int.reduceNeg, Int.reduceSub, Int.reduceMul, hC_0_0, hC_0_1, hC_0_2, hC_0_3, hC_0_4, hC_0_5, hC_0_6, hC_0_7, hC_0_8, hC_0_9, hC_0_10, hC_0_11, hC_0_12, hC_0_13, hC_0_14, hC_0_15, hC_0_16, hC_1_0, hC_1_1, hC_1_2, hC_1_3, hC_1_4, hC_1_5, hC_2_0, hC_3_0, hC_3_1, hC_3_2, hC_3_3, hC_3_4, hC_3_5, hC_3_6, hC_3_7, hC_3_8, hC_3_9, hC_3_10, hC_3_11, hC_3_12, hC_4_0, hC_5_0, hC_6_0, hC_7_0, hC_8_0, hC_9_0, hC_9_1, hC_9_2, hC_10_0, hC_10_1, hC_10_2, hC_10_3, hC_10_4, hC_10_5, hC_10_6, hC_10_7, hC_10_8, hC_11_0, hC_12_0, hC_13_0, hC_14_0, hC_14_1, hC_14_2, hC_14_3, hC_14_4, hC_14_5, hC_14_6, hC_14_7, hC_14_8, hC_14_9, hC_14_10, hC_14_11, hC_14_12, hC_14_13, hC_14_14, hC_14_15, hC_14_16, hC_14_17, hC_14_18, hC_14_19, hC_14_20, hC_14_21, hC_14_22, hC_14_23, hC_15_0, hC_16_0, hC_17_0, hC_18_0, hC_18_1, hC_18_2, hC_18_3, hC_18_4, hC_19_0, hC_20_0, hC_20_1, hC_20_2, hC_20_3, hC_20_4, hC_20_5, hC_20_6, hC_20_7, hC_20_8, hC_21_0, hC_22_0, hC_23_0, hC_24_0, hC_24_1, hC_24_2, hC_24_3, hC_24_4, hC_24_5, hC_24_6, hC_24_7, hC_24_8, hC_25_0, hC_26_0, hC_27_0, hC_28_0, hC_28_1, hC_28_2, hC_28_3, hC_28_4, hC_28_5, hC_28_6, hC_28_7, hC_28_8, hC_29_0, hC_30_0, hC_31_0, hC_32_0, hC_32_1, hC_32_2, hC_32_3, hC_32_4, hC_32_5, hC_32_6, hC_32_7, hC_32_8, hC_33_0, hC_34_0, hC_35_0, hC_36_0, hC_36_1, hC_36_2, hC_36_3, hC_36_4, hC_36_5, hC_36_6, hC_36_7, hC_36_8, hC_37_0, hC_38_0, hC_39_0, hC_39_1, hC_39_2, hC_39_3, hC_39_4, hC_39_5, hC_39_6, hC_39_7, hC_39_8, hC_40_0, hC_41_0, hC_42_0, hC_43_0, hC_44_0, hC_45_0, hC_45_1, hC_45_2, hC_45_3, hC_45_4, hC_45_5, hC_46_0, hC_47_0, hC_47_1, hC_47_2, hC_47_3, hC_47_4, hC_47_5, hC_47_6, hC_47_7, hC_47_8, hC_47_9, hC_47_10, hC_47_11, hC_47_12, hC_47_13, hC_48_0, hC_49_0, hC_50_0, hC_51_0, hC_52_0, hC_52_1, hC_52_2, hC_52_3, hC_52_4, hC_52_5, hC_52_6, hC_52_7, hC_52_8, hC_52_9, hC_52_10, hC_52_11, hC_52_12, hC_52_13, hC_53_0, hC_54_0, hC_55_0, hC_56_0, hC_57_0, hC_58_0, hC_58_1, hC_58_2, hC_59_0, l1, c, k0, k7, eq_true e]
        · simp only [sX5_allAtOddsOnce_1, sX5_allAtOddsOnce_3, sX5_allAtOddsOnce_4, sX5_allAtOddsOnce_7, sX5_allAtOddsOnce_10, sX5_allAtOddsOnce_11, sX5_allAtOddsOnce_14, sX5_allAtOddsOnce_15, sX5_allAtOddsOnce_16, sX5_allAtOddsOnce_17, sX5_allAtOddsOnce_18, sX5_allAtOddsOnce_19, sX5_allAtOddsOnce_22, sX5_allAtOddsOnce_23, sX5_allAtOddsOnce_24, sX5_allAtOddsOnce_27, sX5_allAtOddsOnce_30, sX5_allAtOddsOnce_31, up_s, up_k, up_i, clr_n, clr_i, clr_j, clr_r, catS_n, catS_i, catS_j, catS_r, Option.toList_some, Option.toList_none, List.cons_append, List.nil_append, List.singleton_append, true_and, and_true, ne_eq, not_false_eq_true, not_true_eq_false, reduceCtorEq, if_true, if_false, true_or, or_true, false_or, or_false, Nat.reduceLT, Nat.reduceEqDiff, Nat.reduceAdd, Nat.reduceLeDiff, Int.reduceEq, Int.reduceNe, Int.reduceLT, Int.reduceLE, Int.reduceAdd, Int.reduceNeg, Int.reduceSub, Int.reduceMul, hC_0_0, hC_0_1, hC_0_2, hC_0_3, hC_0_4, hC_0_5, hC_0_6, hC_0_7, hC_0_8, hC_0_9, hC_0_10, hC_0_11, hC_0_12, hC_0_13, hC_0_14, hC_0_15, hC_0_16, hC_1_0, hC_1_1, hC_1_2, hC_1_3, hC_1_4, hC_1_5, hC_2_0, hC_3_0, hC_3_1, hC_3_2, hC_3_3, hC_3_4, hC_3_5, hC_3_6, hC_3_7, hC_3_8, hC_3_9, hC_3_10, hC_3_11, hC_3_12, hC_4_0, hC_5_0, hC_6_0, hC_7_0, hC_8_0, hC_9_0, hC_9_1, hC_9_2, hC_10_0, hC_10_1, hC_10_2, hC_10_3, hC_10_4, hC_10_5, hC_10_6, hC_10_7, hC_10_8, hC_11_0, hC_12_0, hC_13_0, hC_14_0, hC_14_1, hC_14_2, hC_14_3, hC_14_4, hC_14_5, hC_14_6, hC_14_7, hC_14_8, hC_14_9, hC_14_10, hC_14_11, hC_14_12, hC_14_13, hC_14_14, hC_14_15, hC_14_16, hC_14_17, hC_14_18, hC_14_19, hC_14_20, hC_14_21, hC_14_22, hC_14_23, hC_15_0, hC_16_0, hC_17_0, hC_18_0, hC_18_1, hC_18_2, hC_18_3, hC_18_4, hC_19_0, hC_20_0, hC_20_1, hC_20_2, hC_20_3, hC_20_4, hC_20_5, hC_20_6, hC_20_7, hC_20_8, hC_21_0, hC_22_0, hC_23_0, hC_24_0, hC_24_1, hC_24_2, hC_24_3, hC_24_4, hC_24_5, hC_24_6, hC_24_7, hC_24_8, hC_25_0, hC_26_0, hC_27_0, hC_28_0, hC_28_1, hC_28_2, hC_28_3, hC_28_4, hC_28_5, hC_28_6, hC_28_7, hC_28_8, hC_29_0, hC_30_0, hC_31_0, hC_32_0, hC_32_1, hC_32_2, hC_32_3, hC_32_4, hC_32_5, hC_32_6, hC_32_7, hC_32_8, hC_33_0, hC_34_0, hC_35_0, hC_36_0, hC_36_1, hC_36_2, hC_36_3, hC_36_4, hC_36_5, hC_36_6, hC_36_7, hC_36_8, hC_37_0, hC_38_0, hC_39_0, hC_39_1, hC_39_2, hC_39_3, hC_39_4, hC_39_5, hC_39_6, hC_39_7, hC_39_8, hC_40_0, hC_41_0, hC_42_0, hC_43_0, hC_44_0, hC_45_0, hC_45_1, hC_45_2, hC_45_3, hC_45_4, hC_45_5, hC_46_0, hC_47_0, hC_47_1, hC_47_2, hC_47_3, hC_47_4, hC_47_5, hC_47_6, hC_47_7, hC_47_8, hC_47_9, hC_47_10, hC_47_11, hC_47_12, hC_47_13, hC_48_0, hC_49_0, hC_50_0, hC_51_0, hC_52_0, hC_52_1, hC_52_2, hC_52_3, hC_52_4, hC_52_5, hC_52_6, hC_52_7, hC_52_8, hC_52_9, hC_52_10, hC_52_11, hC_52_12, hC_52_13, hC_53_0, hC_54_0, hC_55_0, hC_56_0, hC_57_0, hC_58_0, hC_58_1, hC_58_2, hC_59_0, l1, c, k0, k7, e, a1]
          refine ih (k + 1) (by omega) (by omega) (by omega) (fun j j0 j1 => ?_)
          by_cases ej : j = k
          · rw [ej]
            cases z : ncB M Ls (M 0 2 + k) s with
            | true => rfl
            | false => exact absurd (key.mpr z) e
          · exact hf j j0 (by omega)
  rw [sX5_allAtOddsOnce_0]
  simp only [sX5_allAtOddsOnce_1, sX5_allAtOddsOnce_3, sX5_allAtOddsOnce_4, sX5_allAtOddsOnce_7, sX5_allAtOddsOnce_10, sX5_allAtOddsOnce_11, sX5_allAtOddsOnce_14, sX5_allAtOddsOnce_15, sX5_allAtOddsOnce_16, sX5_allAtOddsOnce_17, sX5_allAtOddsOnce_18, sX5_allAtOddsOnce_19, sX5_allAtOddsOnce_22, sX5_allAtOddsOnce_23, sX5_allAtOddsOnce_24, sX5_allAtOddsOnce_27, sX5_allAtOddsOnce_30, sX5_allAtOddsOnce_31, up_s, up_k, up_i, clr_n, clr_i, clr_j, clr_r, catS_n, catS_i, catS_j, catS_r, Option.toList_some, Option.toList_none, List.cons_append, List.nil_append, List.singleton_append, true_and, and_true, ne_eq, not_false_eq_true, not_true_eq_false, reduceCtorEq, if_true, if_false, true_or, or_true, false_or, or_false, Nat.reduceLT, Nat.reduceEqDiff, Nat.reduceAdd, Nat.reduceLeDiff, Int.reduceEq, Int.reduceNe, Int.reduceLT, Int.reduceLE, Int.reduceAdd, Int.reduceNeg, Int.reduceSub, Int.reduceMul, hC_0_0, hC_0_1, hC_0_2, hC_0_3, hC_0_4, hC_0_5, hC_0_6, hC_0_7, hC_0_8, hC_0_9, hC_0_10, hC_0_11, hC_0_12, hC_0_13, hC_0_14, hC_0_15, hC_0_16, hC_1_0, hC_1_1, hC_1_2, hC_1_3, hC_1_4, hC_1_5, hC_2_0, hC_3_0, hC_3_1, hC_3_2, hC_3_3, hC_3_4, hC_3_5, hC_3_6, hC_3_7, hC_3_8, hC_3_9, hC_3_10, hC_3_11, hC_3_12, hC_4_0, hC_5_0, hC_6_0, hC_7_0, hC_8_0, hC_9_0, hC_9_1, hC_9_2, hC_10_0, hC_10_1, hC_10_2, hC_10_3, hC_10_4, hC_10_5, hC_10_6, hC_10_7, hC_10_8, hC_11_0, hC_12_0, hC_13_0, hC_14_0, hC_14_1, hC_14_2, hC_14_3, hC_14_4, hC_14_5, hC_14_6, hC_14_7, hC_14_8, hC_14_9, hC_14_10, hC_14_11, hC_14_12, hC_14_13, hC_14_14, hC_14_15, hC_14_16, hC_14_17, hC_14_18, hC_14_19, hC_14_20, hC_14_21, hC_14_22, hC_14_23, hC_15_0, hC_16_0, hC_17_0, hC_18_0, hC_18_1, hC_18_2, hC_18_3, hC_18_4, hC_19_0, hC_20_0, hC_20_1, hC_20_2, hC_20_3, hC_20_4, hC_20_5, hC_20_6, hC_20_7, hC_20_8, hC_21_0, hC_22_0, hC_23_0, hC_24_0, hC_24_1, hC_24_2, hC_24_3, hC_24_4, hC_24_5, hC_24_6, hC_24_7, hC_24_8, hC_25_0, hC_26_0, hC_27_0, hC_28_0, hC_28_1, hC_28_2, hC_28_3, hC_28_4, hC_28_5, hC_28_6, hC_28_7, hC_28_8, hC_29_0, hC_30_0, hC_31_0, hC_32_0, hC_32_1, hC_32_2, hC_32_3, hC_32_4, hC_32_5, hC_32_6, hC_32_7, hC_32_8, hC_33_0, hC_34_0, hC_35_0, hC_36_0, hC_36_1, hC_36_2, hC_36_3, hC_36_4, hC_36_5, hC_36_6, hC_36_7, hC_36_8, hC_37_0, hC_38_0, hC_39_0, hC_39_1, hC_39_2, hC_39_3, hC_39_4, hC_39_5, hC_39_6, hC_39_7, hC_39_8, hC_40_0, hC_41_0, hC_42_0, hC_43_0, hC_44_0, hC_45_0, hC_45_1, hC_45_2, hC_45_3, hC_45_4, hC_45_5, hC_46_0, hC_47_0, hC_47_1, hC_47_2, hC_47_3, hC_47_4, hC_47_5, hC_47_6, hC_47_7, hC_47_8, hC_47_9, hC_47_10, hC_47_11, hC_47_12, hC_47_13, hC_48_0, hC_49_0, hC_50_0, hC_51_0, hC_52_0, hC_52_1, hC_52_2, hC_52_3, hC_52_4, hC_52_5, hC_52_6, hC_52_7, hC_52_8, hC_52_9, hC_52_10, hC_52_11, hC_52_12, hC_52_13, hC_53_0, hC_54_0, hC_55_0, hC_56_0, hC_57_0, hC_58_0, hC_58_1, hC_58_2, hC_59_0]
  exact loop (n.toNat + 1) 0 (by omega) (by omega) (by omega) (fun j j0 j1 => by omega)
def mxS (ok : Nat → Bool) : Nat → Nat → Int → Int
  | _, 0, m => m
  | s, f + 1, m => mxS ok (s + 1) f (if ok s = true then max m (bc (s : Int)) else m)
def quZ (M : Sto) (Ls : List (List Cl)) (n : Int) : Int := mxS (onB M Ls n) 1 (evN M) 1
theorem ev_1 (w : wfM M Ls) : zshl 1 (M 0 0) = ((evN M + 1 : Nat) : Int) := by
  have u := w.sc
  have := zshl_1 (M 0 0).toNat (by omega)
  rw [show (((M 0 0).toNat : Nat) : Int) = M 0 0 by omega] at this
  rw [this]
  unfold evN
  have p0 : 0 < 2 ^ (M 0 0).toNat := Nat.pow_pos (by omega)
  omega
theorem C_quarrel {n : Int} {m : Nat} (hm : 3 ≤ m) (r : RepC σ M Ls) (hl : lkS M Ls σ n) (hn : 0 ≤ n ∧ n ≤ 720) (hQ : Q (some (.inl (quZ M Ls n))) shC σ) : Ex m mX5_greatestQuarrel 0 [(some (.inr (.inr (some (45))))), none, none, none] [] shC σ Q := by
  obtain ⟨d, rfl⟩ : ∃ d, m = d + 3 := ⟨m - 3, by omega⟩
  have w := r.wf.sc
  have z1 := ev_1 r.wf
  obtain ⟨E, hE⟩ : ∃ E, evN M = E := ⟨_, rfl⟩
  have el : E < 64 := by rw [← hE]; exact ev_lt r.wf
  unfold quZ at hQ
  rw [hE] at z1 hQ
  have loop : ∀ (g s : Nat) (mo : Int) (x3 : Option AV), E + 1 - s < g → 1 ≤ s → s ≤ E + 1 → mxS (onB M Ls n) 1 E 1 = mxS (onB M Ls n) s (E + 1 - s) mo → Ex (d + 3) mX5_greatestQuarrel 4 [(some (.inr (.inr (some (45))))), (some (.inl (mo))), (some (.inl ((s : Int)))), x3] [] shC σ Q := by
    intro g
    induction g with
    | zero => intros; omega
    | succ g ih =>
      intro s mo x3 hg s0 s1 hs
      have e1' : ∀ _ : Unit, w32 ((s : Int) + 1) = ((s + 1 : Nat) : Int) := fun _ => by rw [w32_of ⟨by omega, by omega⟩]; omega
      rw [sX5_greatestQuarrel_4]
      by_cases k : ((E + 1 : Nat) : Int) ≤ s
      · rw [show E + 1 - s = 0 by omega, mxS] at hs
        rw [hs] at hQ
        simp only [sX5_greatestQuarrel_1, sX5_greatestQuarrel_2, sX5_greatestQuarrel_3, sX5_greatestQuarrel_5, sX5_greatestQuarrel_6, sX5_greatestQuarrel_7, sX5_greatestQuarrel_10, sX5_greatestQuarrel_11, sX5_greatestQuarrel_14, sX5_greatestQuarrel_15, sX5_greatestQuarrel_18, sX5_greatestQuarrel_19, sX5_greatestQuarrel_20, sX5_greatestQuarrel_21, sX5_greatestQuarrel_24, sX5_greatestQuarrel_25, sX5_greatestQuarrel_26, sX5_greatestQuarrel_27, sX5_greatestQuarrel_30, sX5_greatestQuarrel_33, sX5_greatestQuarrel_36, sX5_greatestQuarrel_37, sX5_greatestQuarrel_38, sX5_greatestQuarrel_41, sX5_greatestQuarrel_44, sX5_greatestQuarrel_45, up_s, up_k, up_i, clr_n, clr_i, clr_j, clr_r, catS_n, catS_i, catS_j, catS_r, Option.toList_some, Option.toList_none, List.cons_append, List.nil_append, List.singleton_append, true_and, and_true, ne_eq, not_false_eq_true, not_true_eq_false, reduceCtorEq, if_true, if_false, true_or, or_true, false_or, or_false, Nat.reduceLT, Nat.reduceEqDiff, Nat.reduceAdd, Nat.reduceLeDiff, Int.reduceEq, Int.reduceNe, Int.reduceLT, Int.reduceLE, Int.reduceAdd, Int.reduceNeg, Int.reduceSub, Int.reduceMul, hC_0_0, hC_0_1, hC_0_2, hC_0_3, hC_0_4, hC_0_5, hC_0_6, hC_0_7, hC_0_8, hC_0_9, hC_0_10, hC_0_11, hC_0_12, hC_0_13, hC_0_14, hC_0_15, hC_0_16, hC_1_0, hC_1_1, hC_1_2, hC_1_3, hC_1_4, hC_1_5, hC_2_0, hC_3_0, hC_3_1, hC_3_2, hC_3_3, hC_3_4, hC_3_5, hC_3_6, hC_3_7, hC_3_8, hC_3_9, hC_3_10, hC_3_11, hC_3_12, hC_4_0, hC_5_0, hC_6_0, hC_7_0, hC_8_0, hC_9_0, hC_9_1, hC_9_2, hC_10_0, hC_10_1, hC_10_2, hC_10_3, hC_10_4, hC_10_5, hC_10_6, hC_10_7, hC_10_8, hC_11_0, hC_12_0, hC_13_0, hC_14_0, hC_14_1, hC_14_2, hC_14_3, hC_14_4, hC_14_5, hC_14_6, hC_14_7, hC_14_8, hC_14_9, hC_14_10, hC_14_11, hC_14_12, hC_14_13, hC_14_14, hC_14_15, hC_14_16, hC_14_17, hC_14_18, hC_14_19, hC_14_20, hC_14_21, hC_14_22, hC_14_23, hC_15_0, hC_16_0, hC_17_0, hC_18_0, hC_18_1, hC_18_2, hC_18_3, hC_18_4, hC_19_0, hC_20_0, hC_20_1, hC_20_2, hC_20_3, hC_20_4, hC_20_5, hC_20_6, hC_20_7, hC_20_8, hC_21_0, hC_22_0, hC_23_0, hC_24_0, hC_24_1, hC_24_2, hC_24_3, hC_24_4, hC_24_5, hC_24_6, hC_24_7, hC_24_8, hC_25_0, hC_26_0, hC_27_0, hC_28_0, hC_28_1, hC_28_2, hC_28_3, hC_28_4, hC_28_5, hC_28_6, hC_28_7, hC_28_8, hC_29_0, hC_30_0, hC_31_0, hC_32_0, hC_32_1, hC_32_2, hC_32_3, hC_32_4, hC_32_5, hC_32_6, hC_32_7, hC_32_8, hC_33_0, hC_34_0, hC_35_0, hC_36_0, hC_36_1, hC_36_2, hC_36_3, hC_36_4, hC_36_5, hC_36_6, hC_36_7, hC_36_8, hC_37_0, hC_38_0, hC_39_0, hC_39_1, hC_39_2, hC_39_3, hC_39_4, hC_39_5, hC_39_6, hC_39_7, hC_39_8, hC_40_0, hC_41_0, hC_42_0, hC_43_0, hC_44_0, hC_45_0, hC_45_1, hC_45_2, hC_45_3, hC_45_4, hC_45_5, hC_46_0, hC_47_0, hC_47_1, hC_47_2, hC_47_3, hC_47_4, hC_47_5, hC_47_6, hC_47_7, hC_47_8, hC_47_9, hC_47_10, hC_47_11, hC_47_12, hC_47_13, hC_48_0, hC_49_0, hC_50_0, hC_51_0, hC_52_0, hC_52_1, hC_52_2, hC_52_3, hC_52_4, hC_52_5, hC_52_6, hC_52_7, hC_52_8, hC_52_9, hC_52_10, hC_52_11, hC_52_12, hC_52_13, hC_53_0, hC_54_0, hC_55_0, hC_56_0, hC_57_0, hC_58_0, hC_58_1, hC_58_2, hC_59_0, hl.1, z1, k]
        exact hQ
      · rw [show E + 1 - s = (E + 1 - (s + 1)) + 1 by omega, mxS] at hs
        have s6 : s < 64 := by omega
        by_cases c1 : bc (s : Int) ≤ mo
        · rw [show max mo (bc (s : Int)) = mo by omega, ite_self] at hs
          simp only [sX5_greatestQuarrel_1, sX5_greatestQuarrel_2, sX5_greatestQuarrel_3, sX5_greatestQuarrel_5, sX5_greatestQuarrel_6, sX5_greatestQuarrel_7, sX5_greatestQuarrel_10, sX5_greatestQuarrel_11, sX5_greatestQuarrel_14, sX5_greatestQuarrel_15, sX5_greatestQuarrel_18, sX5_greatestQuarrel_19, sX5_greatestQuarrel_20, sX5_greatestQuarrel_21, sX5_greatestQuarrel_24, sX5_greatestQuarrel_25, sX5_greatestQuarrel_26, sX5_greatestQuarrel_27, sX5_greatestQuarrel_30, sX5_greatestQuarrel_33, sX5_greatestQuarrel_36, sX5_greatestQuarrel_37, sX5_greatestQuarrel_38, sX5_greatestQuarrel_41, sX5_greatestQuarrel_44, sX5_greatestQuarrel_45, up_s, up_k, up_i, clr_n, clr_i, clr_j, clr_r, catS_n, catS_i, catS_j, catS_r, Option.toList_some, Option.toList_none, List.cons_append, List.nil_append, List.singleton_append, true_and, and_true, ne_eq, not_false_eq_true, not_true_eq_false, reduceCtorEq, if_true, if_false, true_or, or_true, false_or, or_false, Nat.reduceLT, Nat.reduceEqDiff, Nat.reduceAdd, Nat.reduceLeDiff, Int.reduceEq, Int.reduceNe, Int.reduceLT, Int.reduceLE, Int.reduceAdd, Int.reduceNeg, Int.reduceSub, Int.reduceMul, hC_0_0, hC_0_1, hC_0_2, hC_0_3, hC_0_4, hC_0_5, hC_0_6, hC_0_7, hC_0_8, hC_0_9, hC_0_10, hC_0_11, hC_0_12, hC_0_13, hC_0_14, hC_0_15, hC_0_16, hC_1_0, hC_1_1, hC_1_2, hC_1_3, hC_1_4, hC_1_5, hC_2_0, hC_3_0, hC_3_1, hC_3_2, hC_3_3, hC_3_4, hC_3_5, hC_3_6, hC_3_7, hC_3_8, hC_3_9, hC_3_10, hC_3_11, hC_3_12, hC_4_0, hC_5_0, hC_6_0, hC_7_0, hC_8_0, hC_9_0, hC_9_1, hC_9_2, hC_10_0, hC_10_1, hC_10_2, hC_10_3, hC_10_4, hC_10_5, hC_10_6, hC_10_7, hC_10_8, hC_11_0, hC_12_0, hC_13_0, hC_14_0, hC_14_1, hC_14_2, hC_14_3, hC_14_4, hC_14_5, hC_14_6, hC_14_7, hC_14_8, hC_14_9, hC_14_10, hC_14_11, hC_14_12, hC_14_13, hC_14_14, hC_14_15, hC_14_16, hC_14_17, hC_14_18, hC_14_19, hC_14_20, hC_14_21, hC_14_22, hC_14_23, hC_15_0, hC_16_0, hC_17_0, hC_18_0, hC_18_1, hC_18_2, hC_18_3, hC_18_4, hC_19_0, hC_20_0, hC_20_1, hC_20_2, hC_20_3, hC_20_4, hC_20_5, hC_20_6, hC_20_7, hC_20_8, hC_21_0, hC_22_0, hC_23_0, hC_24_0, hC_24_1, hC_24_2, hC_24_3, hC_24_4, hC_24_5, hC_24_6, hC_24_7, hC_24_8, hC_25_0, hC_26_0, hC_27_0, hC_28_0, hC_28_1, hC_28_2, hC_28_3, hC_28_4, hC_28_5, hC_28_6, hC_28_7, hC_28_8, hC_29_0, hC_30_0, hC_31_0, hC_32_0, hC_32_1, hC_32_2, hC_32_3, hC_32_4, hC_32_5, hC_32_6, hC_32_7, hC_32_8, hC_33_0, hC_34_0, hC_35_0, hC_36_0, hC_36_1, hC_36_2, hC_36_3, hC_36_4, hC_36_5, hC_36_6, hC_36_7, hC_36_8, hC_37_0, hC_38_0, hC_39_0, hC_39_1, hC_39_2, hC_39_3, hC_39_4, hC_39_5, hC_39_6, hC_39_7, hC_39_8, hC_40_0, hC_41_0, hC_42_0, hC_43_0, hC_44_0, hC_45_0, hC_45_1, hC_45_2, hC_45_3, hC_45_4, hC_45_5, hC_46_0, hC_47_0, hC_47_1, hC_47_2, hC_47_3, hC_47_4, hC_47_5, hC_47_6, hC_47_7, hC_47_8, hC_47_9, hC_47_10, hC_47_11, hC_47_12, hC_47_13, hC_48_0, hC_49_0, hC_50_0, hC_51_0, hC_52_0, hC_52_1, hC_52_2, hC_52_3, hC_52_4, hC_52_5, hC_52_6, hC_52_7, hC_52_8, hC_52_9, hC_52_10, hC_52_11, hC_52_12, hC_52_13, hC_53_0, hC_54_0, hC_55_0, hC_56_0, hC_57_0, hC_58_0, hC_58_1, hC_58_2, hC_59_0, hl.1, z1, k, c_bitCount, c1, e1' ()]
          exact ih (s + 1) mo _ (by omega) (by omega) (by omega) hs
        · rw [show max mo (bc (s : Int)) = bc (s : Int) by omega] at hs
          simp only [sX5_greatestQuarrel_1, sX5_greatestQuarrel_2, sX5_greatestQuarrel_3, sX5_greatestQuarrel_5, sX5_greatestQuarrel_6, sX5_greatestQuarrel_7, sX5_greatestQuarrel_10, sX5_greatestQuarrel_11, sX5_greatestQuarrel_14, sX5_greatestQuarrel_15, sX5_greatestQuarrel_18, sX5_greatestQuarrel_19, sX5_greatestQuarrel_20, sX5_greatestQuarrel_21, sX5_greatestQuarrel_24, sX5_greatestQuarrel_25, sX5_greatestQuarrel_26, sX5_greatestQuarrel_27, sX5_greatestQuarrel_30, sX5_greatestQuarrel_33, sX5_greatestQuarrel_36, sX5_greatestQuarrel_37, sX5_greatestQuarrel_38, sX5_greatestQuarrel_41, sX5_greatestQuarrel_44, sX5_greatestQuarrel_45, up_s, up_k, up_i, clr_n, clr_i, clr_j, clr_r, catS_n, catS_i, catS_j, catS_r, Option.toList_some, Option.toList_none, List.cons_append, List.nil_append, List.singleton_append, true_and, and_true, ne_eq, not_false_eq_true, not_true_eq_false, reduceCtorEq, if_true, if_false, true_or, or_true, false_or, or_false, Nat.reduceLT, Nat.reduceEqDiff, Nat.reduceAdd, Nat.reduceLeDiff, Int.reduceEq, Int.reduceNe, Int.reduceLT, Int.reduceLE, Int.reduceAdd, Int.reduceNeg, Int.reduceSub, Int.reduceMul, hC_0_0, hC_0_1, hC_0_2, hC_0_3, hC_0_4, hC_0_5, hC_0_6, hC_0_7, hC_0_8, hC_0_9, hC_0_10, hC_0_11, hC_0_12, hC_0_13, hC_0_14, hC_0_15, hC_0_16, hC_1_0, hC_1_1, hC_1_2, hC_1_3, hC_1_4, hC_1_5, hC_2_0, hC_3_0, hC_3_1, hC_3_2, hC_3_3, hC_3_4, hC_3_5, hC_3_6, hC_3_7, hC_3_8, hC_3_9, hC_3_10, hC_3_11, hC_3_12, hC_4_0, hC_5_0, hC_6_0, hC_7_0, hC_8_0, hC_9_0, hC_9_1, hC_9_2, hC_10_0, hC_10_1, hC_10_2, hC_10_3, hC_10_4, hC_10_5, hC_10_6, hC_10_7, hC_10_8, hC_11_0, hC_12_0, hC_13_0, hC_14_0, hC_14_1, hC_14_2, hC_14_3, hC_14_4, hC_14_5, hC_14_6, hC_14_7, hC_14_8, hC_14_9, hC_14_10, hC_14_11, hC_14_12, hC_14_13, hC_14_14, hC_14_15, hC_14_16, hC_14_17, hC_14_18, hC_14_19, hC_14_20, hC_14_21, hC_14_22, hC_14_23, hC_15_0, hC_16_0, hC_17_0, hC_18_0, hC_18_1, hC_18_2, hC_18_3, hC_18_4, hC_19_0, hC_20_0, hC_20_1, hC_20_2, hC_20_3, hC_20_4, hC_20_5, hC_20_6, hC_20_7, hC_20_8, hC_21_0, hC_22_0, hC_23_0, hC_24_0, hC_24_1, hC_24_2, hC_24_3, hC_24_4, hC_24_5, hC_24_6, hC_24_7, hC_24_8, hC_25_0, hC_26_0, hC_27_0, hC_28_0, hC_28_1, hC_28_2, hC_28_3, hC_28_4, hC_28_5, hC_28_6, hC_28_7, hC_28_8, hC_29_0, hC_30_0, hC_31_0, hC_32_0, hC_32_1, hC_32_2, hC_32_3, hC_32_4, hC_32_5, hC_32_6, hC_32_7, hC_32_8, hC_33_0, hC_34_0, hC_35_0, hC_36_0, hC_36_1, hC_36_2, hC_36_3, hC_36_4, hC_36_5, hC_36_6, hC_36_7, hC_36_8, hC_37_0, hC_38_0, hC_39_0, hC_39_1, hC_39_2, hC_39_3, hC_39_4, hC_39_5, hC_39_6, hC_39_7, hC_39_8, hC_40_0, hC_41_0, hC_42_0, hC_43_0, hC_44_0, hC_45_0, hC_45_1, hC_45_2, hC_45_3, hC_45_4, hC_45_5, hC_46_0, hC_47_0, hC_47_1, hC_47_2, hC_47_3, hC_47_4, hC_47_5, hC_47_6, hC_47_7, hC_47_8, hC_47_9, hC_47_10, hC_47_11, hC_47_12, hC_47_13, hC_48_0, hC_49_0, hC_50_0, hC_51_0, hC_52_0, hC_52_1, hC_52_2, hC_52_3, hC_52_4, hC_52_5, hC_52_6, hC_52_7, hC_52_8, hC_52_9, hC_52_10, hC_52_11, hC_52_12, hC_52_13, hC_53_0, hC_54_0, hC_55_0, hC_56_0, hC_57_0, hC_58_0, hC_58_1, hC_58_2, hC_59_0, hl.1, z1, k, c_bitCount, c1]
          refine C_pairsOf (n := n) s6 ⟨w.1, w.2.1⟩ hl.1 (fun y hy => ?_)
          by_cases c2 : onB M Ls n s = true
          · rw [if_pos c2] at hs
            simp only [sX5_greatestQuarrel_1, sX5_greatestQuarrel_2, sX5_greatestQuarrel_3, sX5_greatestQuarrel_5, sX5_greatestQuarrel_6, sX5_greatestQuarrel_7, sX5_greatestQuarrel_10, sX5_greatestQuarrel_11, sX5_greatestQuarrel_14, sX5_greatestQuarrel_15, sX5_greatestQuarrel_18, sX5_greatestQuarrel_19, sX5_greatestQuarrel_20, sX5_greatestQuarrel_21, sX5_greatestQuarrel_24, sX5_greatestQuarrel_25, sX5_greatestQuarrel_26, sX5_greatestQuarrel_27, sX5_greatestQuarrel_30, sX5_greatestQuarrel_33, sX5_greatestQuarrel_36, sX5_greatestQuarrel_37, sX5_greatestQuarrel_38, sX5_greatestQuarrel_41, sX5_greatestQuarrel_44, sX5_greatestQuarrel_45, up_s, up_k, up_i, clr_n, clr_i, clr_j, clr_r, catS_n, catS_i, catS_j, catS_r, Option.toList_some, Option.toList_none, List.cons_append, List.nil_append, List.singleton_append, true_and, and_true, ne_eq, not_false_eq_true, not_true_eq_false, reduceCtorEq, if_true, if_false, true_or, or_true, false_or, or_false, Nat.reduceLT, Nat.reduceEqDiff, Nat.reduceAdd, Nat.reduceLeDiff, Int.reduceEq, Int.reduceNe, Int.reduceLT, Int.reduceLE, Int.reduceAdd, Int.reduceNeg, Int.reduceSub, Int.reduceMul, hC_0_0, hC_0_1, hC_0_2, hC_0_3, hC_0_4, hC_0_5, hC_0_6, hC_0_7, hC_0_8, hC_0_9, hC_0_10, hC_0_11, hC_0_12, hC_0_13, hC_0_14, hC_0_15, hC_0_16, hC_1_0, hC_1_1, hC_1_2, hC_1_3, hC_1_4, hC_1_5, hC_2_0, hC_3_0, hC_3_1, hC_3_2, hC_3_3, hC_3_4, hC_3_5, hC_3_6, hC_3_7, hC_3_8, hC_3_9, hC_3_10, hC_3_11, hC_3_12, hC_4_0, hC_5_0, hC_6_0, hC_7_0, hC_8_0, hC_9_0, hC_9_1, hC_9_2, hC_10_0, hC_10_1, hC_10_2, hC_10_3, hC_10_4, hC_10_5, hC_10_6, hC_10_7, hC_10_8, hC_11_0, hC_12_0, hC_13_0, hC_14_0, hC_14_1, hC_14_2, hC_14_3, hC_14_4, hC_14_5, hC_14_6, hC_14_7, hC_14_8, hC_14_9, hC_14_10, hC_14_11, hC_14_12, hC_14_13, hC_14_14, hC_14_15, hC_14_16, hC_14_17, hC_14_18, hC_14_19, hC_14_20, hC_14_21, hC_14_22, hC_14_23, hC_15_0, hC_16_0, hC_17_0, hC_18_0, hC_18_1, hC_18_2, hC_18_3, hC_18_4, hC_19_0, hC_20_0, hC_20_1, hC_20_2, hC_20_3, hC_20_4, hC_20_5, hC_20_6, hC_20_7, hC_20_8, hC_21_0, hC_22_0, hC_23_0, hC_24_0, hC_24_1, hC_24_2, hC_24_3, hC_24_4, hC_24_5, hC_24_6, hC_24_7, hC_24_8, hC_25_0, hC_26_0, hC_27_0, hC_28_0, hC_28_1, hC_28_2, hC_28_3, hC_28_4, hC_28_5, hC_28_6, hC_28_7, hC_28_8, hC_29_0, hC_30_0, hC_31_0, hC_32_0, hC_32_1, hC_32_2, hC_32_3, hC_32_4, hC_32_5, hC_32_6, hC_32_7, hC_32_8, hC_33_0, hC_34_0, hC_35_0, hC_36_0, hC_36_1, hC_36_2, hC_36_3, hC_36_4, hC_36_5, hC_36_6, hC_36_7, hC_36_8, hC_37_0, hC_38_0, hC_39_0, hC_39_1, hC_39_2, hC_39_3, hC_39_4, hC_39_5, hC_39_6, hC_39_7, hC_39_8, hC_40_0, hC_41_0, hC_42_0, hC_43_0, hC_44_0, hC_45_0, hC_45_1, hC_45_2, hC_45_3, hC_45_4, hC_45_5, hC_46_0, hC_47_0, hC_47_1, hC_47_2, hC_47_3, hC_47_4, hC_47_5, hC_47_6, hC_47_7, hC_47_8, hC_47_9, hC_47_10, hC_47_11, hC_47_12, hC_47_13, hC_48_0, hC_49_0, hC_50_0, hC_51_0, hC_52_0, hC_52_1, hC_52_2, hC_52_3, hC_52_4, hC_52_5, hC_52_6, hC_52_7, hC_52_8, hC_52_9, hC_52_10, hC_52_11, hC_52_12, hC_52_13, hC_53_0, hC_54_0, hC_55_0, hC_56_0, hC_57_0, hC_58_0, hC_58_1, hC_58_2, hC_59_0, C_once hl hn w.2.1 hy, bz_t c2, e1' ()]
            exact ih (s + 1) _ _ (by omega) (by omega) (by omega) hs
          · rw [if_neg c2] at hs
            simp only [sX5_greatestQuarrel_1, sX5_greatestQuarrel_2, sX5_greatestQuarrel_3, sX5_greatestQuarrel_5, sX5_greatestQuarrel_6, sX5_greatestQuarrel_7, sX5_greatestQuarrel_10, sX5_greatestQuarrel_11, sX5_greatestQuarrel_14, sX5_greatestQuarrel_15, sX5_greatestQuarrel_18, sX5_greatestQuarrel_19, sX5_greatestQuarrel_20, sX5_greatestQuarrel_21, sX5_greatestQuarrel_24, sX5_greatestQuarrel_25, sX5_greatestQuarrel_26, sX5_greatestQuarrel_27, sX5_greatestQuarrel_30, sX5_greatestQuarrel_33, sX5_greatestQuarrel_36, sX5_greatestQuarrel_37, sX5_greatestQuarrel_38, sX5_greatestQuarrel_41, sX5_greatestQuarrel_44, sX5_greatestQuarrel_45, up_s, up_k, up_i, clr_n, clr_i, clr_j, clr_r, catS_n, catS_i, catS_j, catS_r, Option.toList_some, Option.toList_none, List.cons_append, List.nil_append, List.singleton_append, true_and, and_true, ne_eq, not_false_eq_true, not_true_eq_false, reduceCtorEq, if_true, if_false, true_or, or_true, false_or, or_false, Nat.reduceLT, Nat.reduceEqDiff, Nat.reduceAdd, Nat.reduceLeDiff, Int.reduceEq, Int.reduceNe, Int.reduceLT, Int.reduceLE, Int.reduceAdd, Int.reduceNeg, Int.reduceSub, Int.reduceMul, hC_0_0, hC_0_1, hC_0_2, hC_0_3, hC_0_4, hC_0_5, hC_0_6, hC_0_7, hC_0_8, hC_0_9, hC_0_10, hC_0_11, hC_0_12, hC_0_13, hC_0_14, hC_0_15, hC_0_16, hC_1_0, hC_1_1, hC_1_2, hC_1_3, hC_1_4, hC_1_5, hC_2_0, hC_3_0, hC_3_1, hC_3_2, hC_3_3, hC_3_4, hC_3_5, hC_3_6, hC_3_7, hC_3_8, hC_3_9, hC_3_10, hC_3_11, hC_3_12, hC_4_0, hC_5_0, hC_6_0, hC_7_0, hC_8_0, hC_9_0, hC_9_1, hC_9_2, hC_10_0, hC_10_1, hC_10_2, hC_10_3, hC_10_4, hC_10_5, hC_10_6, hC_10_7, hC_10_8, hC_11_0, hC_12_0, hC_13_0, hC_14_0, hC_14_1, hC_14_2, hC_14_3, hC_14_4, hC_14_5, hC_14_6, hC_14_7, hC_14_8, hC_14_9, hC_14_10, hC_14_11, hC_14_12, hC_14_13, hC_14_14, hC_14_15, hC_14_16, hC_14_17, hC_14_18, hC_14_19, hC_14_20, hC_14_21, hC_14_22, hC_14_23, hC_15_0, hC_16_0, hC_17_0, hC_18_0, hC_18_1, hC_18_2, hC_18_3, hC_18_4, hC_19_0, hC_20_0, hC_20_1, hC_20_2, hC_20_3, hC_20_4, hC_20_5, hC_20_6, hC_20_7, hC_20_8, hC_21_0, hC_22_0, hC_23_0, hC_24_0, hC_24_1, hC_24_2, hC_24_3, hC_24_4, hC_24_5, hC_24_6, hC_24_7, hC_24_8, hC_25_0, hC_26_0, hC_27_0, hC_28_0, hC_28_1, hC_28_2, hC_28_3, hC_28_4, hC_28_5, hC_28_6, hC_28_7, hC_28_8, hC_29_0, hC_30_0, hC_31_0, hC_32_0, hC_32_1, hC_32_2, hC_32_3, hC_32_4, hC_32_5, hC_32_6, hC_32_7, hC_32_8, hC_33_0, hC_34_0, hC_35_0, hC_36_0, hC_36_1, hC_36_2, hC_36_3, hC_36_4, hC_36_5, hC_36_6, hC_36_7, hC_36_8, hC_37_0, hC_38_0, hC_39_0, hC_39_1, hC_39_2, hC_39_3, hC_39_4, hC_39_5, hC_39_6, hC_39_7, hC_39_8, hC_40_0, hC_41_0, hC_42_0, hC_43_0, hC_44_0, hC_45_0, hC_45_1, hC_45_2, hC_45_3, hC_45_4, hC_45_5, hC_46_0, hC_47_0, hC_47_1, hC_47_2, hC_47_3, hC_47_4, hC_47_5, hC_47_6, hC_47_7, hC_47_8, hC_47_9, hC_47_10, hC_47_11, hC_47_12, hC_47_13, hC_48_0, hC_49_0, hC_50_0, hC_51_0, hC_52_0, hC_52_1, hC_52_2, hC_52_3, hC_52_4, hC_52_5, hC_52_6, hC_52_7, hC_52_8, hC_52_9, hC_52_10, hC_52_11, hC_52_12, hC_52_13, hC_53_0, hC_54_0, hC_55_0, hC_56_0, hC_57_0, hC_58_0, hC_58_1, hC_58_2, hC_59_0, C_once hl hn w.2.1 hy, bz_f c2, e1' ()]
            exact ih (s + 1) _ _ (by omega) (by omega) (by omega) hs
  rw [sX5_greatestQuarrel_0]
  simp only [sX5_greatestQuarrel_1, sX5_greatestQuarrel_2, sX5_greatestQuarrel_3, sX5_greatestQuarrel_5, sX5_greatestQuarrel_6, sX5_greatestQuarrel_7, sX5_greatestQuarrel_10, sX5_greatestQuarrel_11, sX5_greatestQuarrel_14, sX5_greatestQuarrel_15, sX5_greatestQuarrel_18, sX5_greatestQuarrel_19, sX5_greatestQuarrel_20, sX5_greatestQuarrel_21, sX5_greatestQuarrel_24, sX5_greatestQuarrel_25, sX5_greatestQuarrel_26, sX5_greatestQuarrel_27, sX5_greatestQuarrel_30, sX5_greatestQuarrel_33, sX5_greatestQuarrel_36, sX5_greatestQuarrel_37, sX5_greatestQuarrel_38, sX5_greatestQuarrel_41, sX5_greatestQuarrel_44, sX5_greatestQuarrel_45, up_s, up_k, up_i, clr_n, clr_i, clr_j, clr_r, catS_n, catS_i, catS_j, catS_r, Option.toList_some, Option.toList_none, List.cons_append, List.nil_append, List.singleton_append, true_and, and_true, ne_eq, not_false_eq_true, not_true_eq_false, reduceCtorEq, if_true, if_false, true_or, or_true, false_or, or_false, Nat.reduceLT, Nat.reduceEqDiff, Nat.reduceAdd, Nat.reduceLeDiff, Int.reduceEq, Int.reduceNe, Int.reduceLT, Int.reduceLE, Int.reduceAdd, Int.reduceNeg, Int.reduceSub, Int.reduceMul, hC_0_0, hC_0_1, hC_0_2, hC_0_3, hC_0_4, hC_0_5, hC_0_6, hC_0_7, hC_0_8, hC_0_9, hC_0_10, hC_0_11, hC_0_12, hC_0_13, hC_0_14, hC_0_15, hC_0_16, hC_1_0, hC_1_1, hC_1_2, hC_1_3, hC_1_4, hC_1_5, hC_2_0, hC_3_0, hC_3_1, hC_3_2, hC_3_3, hC_3_4, hC_3_5, hC_3_6, hC_3_7, hC_3_8, hC_3_9, hC_3_10, hC_3_11, hC_3_12, hC_4_0, hC_5_0, hC_6_0, hC_7_0, hC_8_0, hC_9_0, hC_9_1, hC_9_2, hC_10_0, hC_10_1, hC_10_2, hC_10_3, hC_10_4, hC_10_5, hC_10_6, hC_10_7, hC_10_8, hC_11_0, hC_12_0, hC_13_0, hC_14_0, hC_14_1, hC_14_2, hC_14_3, hC_14_4, hC_14_5, hC_14_6, hC_14_7, hC_14_8, hC_14_9, hC_14_10, hC_14_11, hC_14_12, hC_14_13, hC_14_14, hC_14_15, hC_14_16, hC_14_17, hC_14_18, hC_14_19, hC_14_20, hC_14_21, hC_14_22, hC_14_23, hC_15_0, hC_16_0, hC_17_0, hC_18_0, hC_18_1, hC_18_2, hC_18_3, hC_18_4, hC_19_0, hC_20_0, hC_20_1, hC_20_2, hC_20_3, hC_20_4, hC_20_5, hC_20_6, hC_20_7, hC_20_8, hC_21_0, hC_22_0, hC_23_0, hC_24_0, hC_24_1, hC_24_2, hC_24_3, hC_24_4, hC_24_5, hC_24_6, hC_24_7, hC_24_8, hC_25_0, hC_26_0, hC_27_0, hC_28_0, hC_28_1, hC_28_2, hC_28_3, hC_28_4, hC_28_5, hC_28_6, hC_28_7, hC_28_8, hC_29_0, hC_30_0, hC_31_0, hC_32_0, hC_32_1, hC_32_2, hC_32_3, hC_32_4, hC_32_5, hC_32_6, hC_32_7, hC_32_8, hC_33_0, hC_34_0, hC_35_0, hC_36_0, hC_36_1, hC_36_2, hC_36_3, hC_36_4, hC_36_5, hC_36_6, hC_36_7, hC_36_8, hC_37_0, hC_38_0, hC_39_0, hC_39_1, hC_39_2, hC_39_3, hC_39_4, hC_39_5, hC_39_6, hC_39_7, hC_39_8, hC_40_0, hC_41_0, hC_42_0, hC_43_0, hC_44_0, hC_45_0, hC_45_1, hC_45_2, hC_45_3, hC_45_4, hC_45_5, hC_46_0, hC_47_0, hC_47_1, hC_47_2, hC_47_3, hC_47_4, hC_47_5, hC_47_6, hC_47_7, hC_47_8, hC_47_9, hC_47_10, hC_47_11, hC_47_12, hC_47_13, hC_48_0, hC_49_0, hC_50_0, hC_51_0, hC_52_0, hC_52_1, hC_52_2, hC_52_3, hC_52_4, hC_52_5, hC_52_6, hC_52_7, hC_52_8, hC_52_9, hC_52_10, hC_52_11, hC_52_12, hC_52_13, hC_53_0, hC_54_0, hC_55_0, hC_56_0, hC_57_0, hC_58_0, hC_58_1, hC_58_2, hC_59_0]
  exact loop (E + 1) 1 1 none (by omega) (by omega) (by omega) rfl
def isMx (ok : Nat → Prop) (m0 v : Int) : Prop := m0 ≤ v ∧ (∀ j : Nat, ok j → bc (j : Int) ≤ v) ∧ (v = m0 ∨ ∃ j : Nat, ok j ∧ v = bc (j : Int))
theorem isMx.cg {ok ok' : Nat → Prop} {m0 v : Int} (h : isMx ok m0 v) (e : ∀ j, ok j ↔ ok' j) : isMx ok' m0 v :=
  ⟨h.1, fun j q => h.2.1 j ((e j).mpr q), h.2.2.imp id (fun ⟨j, q, z⟩ => ⟨j, (e j).mp q, z⟩)⟩
theorem isMx.add {ok : Nat → Prop} {m0 v : Int} (h : isMx ok m0 v) (s : Nat) : isMx (fun j => ok j ∨ j = s) m0 (max v (bc (s : Int))) := by
  obtain ⟨h1, h2, h3⟩ := h
  refine ⟨by omega, fun j q => ?_, ?_⟩
  · rcases q with q | q
    · have := h2 j q; omega
    · rw [q]; omega
  · by_cases c : bc (s : Int) ≤ v
    · rw [show max v (bc (s : Int)) = v by omega]
      exact h3.imp id (fun ⟨j, q, z⟩ => ⟨j, Or.inl q, z⟩)
    · exact Or.inr ⟨s, Or.inr rfl, by omega⟩
theorem mxS_is {ok : Nat → Bool} {m0 : Int} : ∀ (f s : Nat) (m : Int) (ok' : Nat → Prop), isMx ok' m0 m → isMx (fun j => ok' j ∨ (s ≤ j ∧ j < s + f ∧ ok j = true)) m0 (mxS ok s f m) := by
  intro f
  induction f with
  | zero => intro s m ok' h; exact h.cg (fun j => ⟨Or.inl, fun q => q.elim id (fun q => absurd q.2.1 (by omega))⟩)
  | succ f ih =>
    intro s m ok' h
    rw [mxS]
    by_cases c : ok s = true
    · rw [if_pos c]
      refine (ih (s + 1) _ _ (h.add s)).cg (fun j => ?_)
      constructor
      · rintro ((q | q) | q)
        · exact Or.inl q
        · exact Or.inr ⟨by omega, by omega, by rw [q]; exact c⟩
        · exact Or.inr ⟨by omega, by omega, q.2.2⟩
      · rintro (q | q)
        · exact Or.inl (Or.inl q)
        · by_cases e : j = s
          · exact Or.inl (Or.inr e)
          · exact Or.inr ⟨by omega, by omega, q.2.2⟩
    · rw [if_neg c]
      refine (ih (s + 1) _ _ h).cg (fun j => ?_)
      constructor
      · rintro (q | q)
        · exact Or.inl q
        · exact Or.inr ⟨by omega, by omega, q.2.2⟩
      · rintro (q | q)
        · exact Or.inl q
        · by_cases e : j = s
          · rw [e] at q; exact absurd q.2.2 c
          · exact Or.inr ⟨by omega, by omega, q.2.2⟩
def quP (M : Sto) (Ls : List (List Cl)) (x : Int) (s : Nat) : Prop := ncB M Ls x s = false
theorem isMx.qu {n v : Int} (w : wfM M Ls) (h0 : 0 < M 0 0) (hn : 1 ≤ n) (h : isMx (fun j => 1 ≤ j ∧ j ≤ evN M ∧ ∃ x, M 0 2 ≤ x ∧ x < M 0 2 + n ∧ quP M Ls x j) 0 v) : v = quZ M Ls n := by
  have on : ∀ j : Nat, onB M Ls n j = true ↔ ∃ x, M 0 2 ≤ x ∧ x < M 0 2 + n ∧ quP M Ls x j := by
    intro j
    unfold onB quP
    rw [anN_iff]
    constructor
    · rintro ⟨k, k0, k1, q⟩
      rw [Bool.not_eq_true'] at q
      exact ⟨M 0 2 + k, by omega, by omega, q⟩
    · rintro ⟨x, x0, x1, q⟩
      exact ⟨x - M 0 2, by omega, by omega, by rw [show M 0 2 + (x - M 0 2) = x by omega, q]; rfl⟩
  have g := (mxS_is (ok := onB M Ls n) (m0 := 1) (evN M) 1 1 (fun _ => False) ⟨by omega, fun _ q => q.elim, Or.inl rfl⟩)
  rw [show mxS (onB M Ls n) 1 (evN M) 1 = quZ M Ls n from rfl] at g
  obtain ⟨g1, g2, g3⟩ := g
  obtain ⟨h1, h2, h3⟩ := h
  have e1 : 1 ≤ evN M := by
    unfold evN
    have l : 2 ^ 1 ≤ 2 ^ (M 0 0).toNat := Nat.pow_le_pow_right (by omega) (by omega)
    omega
  have n1 : quP M Ls (M 0 2) 1 := by
    unfold quP
    rw [Bool.eq_false_iff]
    intro q
    obtain ⟨a, b, a0, ab, bp, t1, t2, _⟩ := nc_iff.mp q
    have b1 : b < 1 := by
      refine Classical.byContradiction (fun z => ?_)
      rw [Nat.testBit_lt_two_pow (Nat.lt_of_lt_of_le (show 1 < 2 ^ 1 by decide) (Nat.pow_le_pow_right (by omega) (show 1 ≤ b.toNat by omega)))] at t2
      cases t2
    omega
  have v1 : 1 ≤ v := by
    have := h2 1 ⟨by omega, e1, M 0 2, by omega, by omega, n1⟩
    rw [show bc ((1 : Nat) : Int) = 1 by decide] at this
    exact this
  have le1 : v ≤ quZ M Ls n := by
    rcases h3 with q | ⟨j, ⟨j0, j1, q⟩, z⟩
    · omega
    · rw [z]; exact g2 j (Or.inr ⟨j0, by omega, (on j).mpr q⟩)
  have le2 : quZ M Ls n ≤ v := by
    rcases g3 with q | ⟨j, q, z⟩
    · omega
    · rcases q with q | q
      · exact q.elim
      · rw [z]; exact h2 j ⟨q.1, by omega, (on j).mp q.2.2⟩
  omega
end
