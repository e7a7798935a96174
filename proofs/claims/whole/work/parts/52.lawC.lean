section
variable {d : Nat} {sh : List Kd} {σ : Sto} {Q : Option AV → List Kd → Sto → Prop}
/-- what a reader of a law may change: the head, the draft -/
def FrW (σ σ' : Sto) : Prop := ∀ k i, ¬ (k = 11 ∨ (k = 10 ∧ (i = 1 ∨ i = 4)) ∨ (k = 1 ∧ (i = 2 ∨ i = 3))) → σ' k i = σ k i
theorem FrW.rf {σ : Sto} : FrW σ σ := fun _ _ _ => rfl
theorem FrW.tr {a b c : Sto} (h1 : FrW a b) (h2 : FrW b c) : FrW a c := fun k i h => (h2 k i h).trans (h1 k i h)
theorem FrW.up {σ σ' : Sto} {v : Int} (h : FrW σ σ') (q : Nat) (i : Int) (hi : q = 11 ∨ (q = 10 ∧ (i = 1 ∨ i = 4)) ∨ (q = 1 ∧ (i = 2 ∨ i = 3))) : FrW σ (up σ' q i v) := fun k j h' => by
  rw [show _root_.Jvm.Pilot.@@N@@.up σ' q i v k j = σ' k j from by simp only [_root_.Jvm.Pilot.@@N@@.up]; rw [if_neg (by rintro ⟨rfl, rfl⟩; omega)]]; exact h k j h'
theorem FrW.b {σ σ' : Sto} (h : FrW σ σ') : σ' 2 = σ 2 ∧ σ' 1 1 = σ 1 1 := ⟨by funext i; exact h 2 i (by omega), h 1 1 (by omega)⟩
/-- these steps were written behind the draft -/
def drS (σ σ' : Sto) (w : List Int) : Prop := σ' 10 1 = σ 10 1 + w.length ∧ σ' 10 4 = (if 3 ∈ w then 1 else σ 10 4) ∧ (∀ k, k < σ 10 1 → σ' 11 k = σ 11 k) ∧ ∀ k : Nat, k < w.length → σ' 11 (σ 10 1 + k) = w.getD k 0
theorem drS.nil : drS σ σ [] := ⟨by simp, by simp, fun _ _ => rfl, fun k h => by simp at h⟩
theorem drS.tr {a b c : Sto} {w w1 : List Int} (h1 : drS a b w) (h2 : drS b c w1) : drS a c (w ++ w1) := by
  obtain ⟨x1, x2, x3, x4⟩ := h1
  obtain ⟨y1, y2, y3, y4⟩ := h2
  refine ⟨by rw [y1, x1, List.length_append]; omega, ?_, fun k hk => by rw [y3 k (by omega), x3 k hk], fun k hk => ?_⟩
  · rw [y2, x2]
    by_cases m1 : (3 : Int) ∈ w1
    · rw [if_pos m1, if_pos (List.mem_append.mpr (Or.inr m1))]
    · rw [if_neg m1]
      by_cases m2 : (3 : Int) ∈ w
      · rw [if_pos m2, if_pos (List.mem_append.mpr (Or.inl m2))]
      · rw [if_neg m2, if_neg (fun q => (List.mem_append.mp q).elim m2 m1)]
  · by_cases hk2 : k < w.length
    · rw [y3 _ (by omega), x4 k hk2]
      simp only [List.getD_eq_getElem?_getD, List.getElem?_append_left hk2]
    · rw [List.length_append] at hk
      have e := y4 (k - w.length) (by omega)
      rw [x1, show a 10 1 + (w.length : Int) + ((k - w.length : Nat) : Int) = a 10 1 + k by omega] at e
      rw [e]
      simp only [List.getD_eq_getElem?_getD, List.getElem?_append_right (show w.length ≤ k by omega)]
theorem drS.mv {a c : Sto} {w : List Int} {i v : Int} (h : drS a c w) : drS a (up c 1 i v) w := by
  obtain ⟨x1, x2, x3, x4⟩ := h
  exact ⟨by simp only [up_s, up_k, up_i, clr_n, clr_i, clr_j, clr_r, catS_n, catS_i, catS_j, catS_r, Option.toList_some, Option.toList_none, List.cons_append, List.nil_append, List.singleton_append, true_and, and_true, ne_eq, not_false_eq_true, not_true_eq_false, reduceCtorEq, if_true, if_false, true_or, or_true, false_or, or_false, Nat.reduceLT, Nat.reduceEqDiff, Nat.reduceAdd, Nat.reduceLeDiff, Int.reduceEq, Int.reduceNe, Int.reduceLT, Int.reduceLE, Int.reduceAdd, Int.reduceNeg, Int.reduceSub, Int.reduceMul]; exact x1, by rw [up_k (by decide)]; exact x2, fun k hk => by simp only [up_s, up_k, up_i, clr_n, clr_i, clr_j, clr_r, catS_n, catS_i, catS_j, catS_r, Option.toList_some, Option.toList_none, List.cons_append, List.nil_append, List.singleton_append, true_and, and_true, ne_eq, not_false_eq_true, not_true_eq_false, reduceCtorEq, if_true, if_false, true_or, or_true, false_or, or_false, Nat.reduceLT, Nat.reduceEqDiff, Nat.reduceAdd, Nat.reduceLeDiff, Int.reduceEq, Int.reduceNe, Int.reduceLT, Int.reduceLE, Int.reduceAdd, Int.reduceNeg, Int.reduceSub, Int.reduceMul]; exact x3 k hk, fun k hk => by simp only [up_s, up_k, up_i, clr_n, clr_i, clr_j, clr_r, catS_n, catS_i, catS_j, catS_r, Option.toList_some, Option.toList_none, List.cons_append, List.nil_append, List.singleton_append, true_and, and_true, ne_eq, not_false_eq_true, not_true_eq_false, reduceCtorEq, if_true, if_false, true_or, or_true, false_or, or_false, Nat.reduceLT, Nat.reduceEqDiff, Nat.reduceAdd, Nat.reduceLeDiff, Int.reduceEq, Int.reduceNe, Int.reduceLT, Int.reduceLE, Int.reduceAdd, Int.reduceNeg, Int.reduceSub, Int.reduceMul]; exact x4 k hk⟩
theorem drS.mv' {a c : Sto} {w : List Int} {i v : Int} (h : drS (up a 1 i v) c w) : drS a c w := by
  obtain ⟨x1, x2, x3, x4⟩ := h
  rw [up_k (by decide)] at x1 x2
  exact ⟨x1, x2, fun k hk => by have := x3 k (by rw [up_k (by decide)]; exact hk); rw [up_k (by decide)] at this; exact this, fun k hk => by have := x4 k hk; rw [up_k (by decide)] at this; exact this⟩
theorem drS.len {a c : Sto} {w : List Int} (h : drS a c w) : c 10 1 = a 10 1 + w.length := h.1
/-- the draft with a step more -/
def adS (σ : Sto) (x : Int) : Sto := if x = 3 then up (up (up σ 11 (σ 10 1) x) 10 1 (σ 10 1 + 1)) 10 4 1 else up (up σ 11 (σ 10 1) x) 10 1 (σ 10 1 + 1)
theorem c_addS {x : Int} (h : 0 ≤ σ 10 1 ∧ σ 10 1 < 400) : Ex d mX8_add 0 [some (.inr (.inr (some 10))), some (.inl x)] [] shC σ Q = Q none shC (adS σ x) := by
  obtain ⟨h0, h1⟩ := h
  have a1 : ¬ 400 ≤ σ 10 1 := by omega
  simp only [sX8_add_0, sX8_add_1, sX8_add_4, sX8_add_7, sX8_add_10, sX8_add_11, sX8_add_14, sX8_add_15, sX8_add_18, sX8_add_19, sX8_add_20, sX8_add_21, sX8_add_21r, sX8_add_22, sX8_add_25, sX8_add_26, sX8_add_27, sX8_add_30, sX8_add_31, sX8_add_32, sX8_add_35, sX8_add_36, sX8_add_37, sX8_add_40, up_s, up_k, up_i, clr_n, clr_i, clr_j, clr_r, catS_n, catS_i, catS_j, catS_r, Option.toList_some, Option.toList_none, List.cons_append, List.nil_append, List.singleton_append, true_and, and_true, ne_eq, not_false_eq_true, not_true_eq_false, reduceCtorEq, if_true, if_false, true_or, or_true, false_or, or_false, Nat.reduceLT, Nat.reduceEqDiff, Nat.reduceAdd, Nat.reduceLeDiff, Int.reduceEq, Int.reduceNe, Int.reduceLT, Int.reduceLE, Int.reduceAdd, Int.reduceNeg, Int.reduceSub, Int.reduceMul, hC_0_0, hC_0_1, hC_0_2, hC_0_3, hC_0_4, hC_0_5, hC_0_6, hC_0_7, hC_0_8, hC_0_9, hC_0_10, hC_0_11, hC_0_12, hC_0_13, hC_0_14, hC_0_15, hC_0_16, hC_1_0, hC_1_1, hC_1_2, hC_1_3, hC_1_4, hC_1_5, hC_2_0, hC_3_0, hC_3_1, hC_3_2, hC_3_3, hC_3_4, hC_3_5, hC_3_6, hC_3_7, hC_3_8, hC_3_9, hC_3_10, hC_3_11, hC_3_12, hC_4_0, hC_5_0, hC_6_0, hC_7_0, hC_8_0, hC_9_0, hC_9_1, hC_9_2, hC_10_0, hC_10_1, hC_10_2, hC_10_3, hC_10_4, hC_10_5, hC_10_6, hC_10_7, hC_10_8, hC_11_0, hC_12_0, hC_13_0, hC_14_0, hC_14_1, hC_14_2, hC_14_3, hC_14_4, hC_14_5, hC_14_6, hC_14_7, hC_14_8, hC_14_9, hC_14_10, hC_14_11, hC_14_12, hC_14_13, hC_14_14, hC_14_15, hC_14_16, hC_14_17, hC_14_18, hC_14_19, hC_14_20, hC_14_21, hC_14_22, hC_14_23, hC_15_0, hC_16_0, hC_17_0, hC_18_0, hC_18_1, hC_18_2, hC_18_3, hC_18_4, hC_19_0, hC_20_0, hC_20_1, hC_20_2, hC_20_3, hC_20_4, hC_20_5, hC_20_6, hC_20_7, hC_20_8, hC_21_0, hC_22_0, hC_23_0, hC_24_0, hC_24_1, hC_24_2, hC_24_3, hC_24_4, hC_24_5, hC_24_6, hC_24_7, hC_24_8, hC_25_0, hC_26_0, hC_27_0, hC_28_0, hC_28_1, hC_28_2, hC_28_3, hC_28_4, hC_28_5, hC_28_6, hC_28_7, hC_28_8, hC_29_0, hC_30_0, hC_31_0, hC_32_0, hC_32_1, hC_32_2, hC_32_3, hC_32_4, hC_32_5, hC_32_6, hC_32_7, hC_32_8, hC_33_0, hC_34_0, hC_35_0, hC_36_0, hC_36_1, hC_36_2, hC_36_3, hC_36_4, hC_36_5, hC_36_6, hC_36_7, hC_36_8, hC_37_0, hC_38_0, hC_39_0, hC_39_1, hC_39_2, hC_39_3, hC_39_4, hC_39_5, hC_39_6, hC_39_7, hC_39_8, hC_40_0, hC_41_0, hC_42_0, hC_43_0, hC_44_0, hC_45_0, hC_45_1, hC_45_2, hC_45_3, hC_45_4, hC_45_5, hC_46_0, hC_47_0, hC_47_1, hC_47_2, hC_47_3, hC_47_4, hC_47_5, hC_47_6, hC_47_7, hC_47_8, hC_47_9, hC_47_10, hC_47_11, hC_47_12, hC_47_13, hC_48_0, hC_49_0, hC_50_0, hC_51_0, hC_52_0, hC_52_1, hC_52_2, hC_52_3, hC_52_4, hC_52_5, hC_52_6, hC_52_7, hC_52_8, hC_52_9, hC_52_10, hC_52_11, hC_52_12, hC_52_13, hC_53_0, hC_54_0, hC_55_0, hC_56_0, hC_57_0, hC_58_0, hC_58_1, hC_58_2, hC_59_0, a1, h0, h1, adS]
  rw [w32_of ⟨by omega, by omega⟩]
  by_cases c : x = 3
  · rw [if_neg (fun q => q c), if_pos c]
  · rw [if_pos c, if_neg c]
theorem adS_dr {x : Int} : drS σ (adS σ x) [x] := by
  unfold adS
  by_cases c : x = 3
  · rw [if_pos c]
    refine ⟨by simp only [up_s, up_k, up_i, clr_n, clr_i, clr_j, clr_r, catS_n, catS_i, catS_j, catS_r, Option.toList_some, Option.toList_none, List.cons_append, List.nil_append, List.singleton_append, true_and, and_true, ne_eq, not_false_eq_true, not_true_eq_false, reduceCtorEq, if_true, if_false, true_or, or_true, false_or, or_false, Nat.reduceLT, Nat.reduceEqDiff, Nat.reduceAdd, Nat.reduceLeDiff, Int.reduceEq, Int.reduceNe, Int.reduceLT, Int.reduceLE, Int.reduceAdd, Int.reduceNeg, Int.reduceSub, Int.reduceMul, List.length_singleton]; omega, by simp only [up_s, up_k, up_i, clr_n, clr_i, clr_j, clr_r, catS_n, catS_i, catS_j, catS_r, Option.toList_some, Option.toList_none, List.cons_append, List.nil_append, List.singleton_append, true_and, and_true, ne_eq, not_false_eq_true, not_true_eq_false, reduceCtorEq, if_true, if_false, true_or, or_true, false_or, or_false, Nat.reduceLT, Nat.reduceEqDiff, Nat.reduceAdd, Nat.reduceLeDiff, Int.reduceEq, Int.reduceNe, Int.reduceLT, Int.reduceLE, Int.reduceAdd, Int.reduceNeg, Int.reduceSub, Int.reduceMul]; rw [if_pos (by simp [c])], fun k hk => ?_, fun k hk => ?_⟩
    · have e : ¬ k = σ 10 1 := by omega
      simp only [up_s, up_k, up_i, clr_n, clr_i, clr_j, clr_r, catS_n, catS_i, catS_j, catS_r, Option.toList_some, Option.toList_none, List.cons_append, List.nil_append, List.singleton_append, true_and, and_true, ne_eq, not_false_eq_true, not_true_eq_false, reduceCtorEq, if_true, if_false, true_or, or_true, false_or, or_false, Nat.reduceLT, Nat.reduceEqDiff, Nat.reduceAdd, Nat.reduceLeDiff, Int.reduceEq, Int.reduceNe, Int.reduceLT, Int.reduceLE, Int.reduceAdd, Int.reduceNeg, Int.reduceSub, Int.reduceMul, e]
    · have e : k = 0 := by simp only [List.length_singleton] at hk; omega
      subst e
      simp only [up_s, up_k, up_i, clr_n, clr_i, clr_j, clr_r, catS_n, catS_i, catS_j, catS_r, Option.toList_some, Option.toList_none, List.cons_append, List.nil_append, List.singleton_append, true_and, and_true, ne_eq, not_false_eq_true, not_true_eq_false, reduceCtorEq, if_true, if_false, true_or, or_true, false_or, or_false, Nat.reduceLT, Nat.reduceEqDiff, Nat.reduceAdd, Nat.reduceLeDiff, Int.reduceEq, Int.reduceNe, Int.reduceLT, Int.reduceLE, Int.reduceAdd, Int.reduceNeg, Int.reduceSub, Int.reduceMul, Int.ofNat_zero, Int.add_zero, Int.natCast_zero]
      rfl
  · rw [if_neg c]
    refine ⟨by simp only [up_s, up_k, up_i, clr_n, clr_i, clr_j, clr_r, catS_n, catS_i, catS_j, catS_r, Option.toList_some, Option.toList_none, List.cons_append, List.nil_append, List.singleton_append, true_and, and_true, ne_eq, not_false_eq_true, not_true_eq_false, reduceCtorEq, if_true, if_false, true_or, or_true, false_or, or_false, Nat.reduceLT, Nat.reduceEqDiff, Nat.reduceAdd, Nat.reduceLeDiff, Int.reduceEq, Int.reduceNe, Int.reduceLT, Int.reduceLE, Int.reduceAdd, Int.reduceNeg, Int.reduceSub, Int.reduceMul, List.length_singleton]; omega, by simp only [up_s, up_k, up_i, clr_n, clr_i, clr_j, clr_r, catS_n, catS_i, catS_j, catS_r, Option.toList_some, Option.toList_none, List.cons_append, List.nil_append, List.singleton_append, true_and, and_true, ne_eq, not_false_eq_true, not_true_eq_false, reduceCtorEq, if_true, if_false, true_or, or_true, false_or, or_false, Nat.reduceLT, Nat.reduceEqDiff, Nat.reduceAdd, Nat.reduceLeDiff, Int.reduceEq, Int.reduceNe, Int.reduceLT, Int.reduceLE, Int.reduceAdd, Int.reduceNeg, Int.reduceSub, Int.reduceMul]; rw [if_neg (by simp; omega)], fun k hk => ?_, fun k hk => ?_⟩
    · have e : ¬ k = σ 10 1 := by omega
      simp only [up_s, up_k, up_i, clr_n, clr_i, clr_j, clr_r, catS_n, catS_i, catS_j, catS_r, Option.toList_some, Option.toList_none, List.cons_append, List.nil_append, List.singleton_append, true_and, and_true, ne_eq, not_false_eq_true, not_true_eq_false, reduceCtorEq, if_true, if_false, true_or, or_true, false_or, or_false, Nat.reduceLT, Nat.reduceEqDiff, Nat.reduceAdd, Nat.reduceLeDiff, Int.reduceEq, Int.reduceNe, Int.reduceLT, Int.reduceLE, Int.reduceAdd, Int.reduceNeg, Int.reduceSub, Int.reduceMul, e]
    · have e : k = 0 := by simp only [List.length_singleton] at hk; omega
      subst e
      simp only [up_s, up_k, up_i, clr_n, clr_i, clr_j, clr_r, catS_n, catS_i, catS_j, catS_r, Option.toList_some, Option.toList_none, List.cons_append, List.nil_append, List.singleton_append, true_and, and_true, ne_eq, not_false_eq_true, not_true_eq_false, reduceCtorEq, if_true, if_false, true_or, or_true, false_or, or_false, Nat.reduceLT, Nat.reduceEqDiff, Nat.reduceAdd, Nat.reduceLeDiff, Int.reduceEq, Int.reduceNe, Int.reduceLT, Int.reduceLE, Int.reduceAdd, Int.reduceNeg, Int.reduceSub, Int.reduceMul, Int.ofNat_zero, Int.add_zero, Int.natCast_zero]
      rfl
theorem adS_fr {x : Int} : FrW σ (adS σ x) := by
  unfold adS
  split
  · exact ((FrW.rf.up 11 _ (by omega)).up 10 1 (by omega)).up 10 4 (by omega)
  · exact (FrW.rf.up 11 _ (by omega)).up 10 1 (by omega)
theorem adS_1 {x i : Int} : adS σ x 1 i = σ 1 i := by unfold adS; split <;> simp only [up_s, up_k, up_i, clr_n, clr_i, clr_j, clr_r, catS_n, catS_i, catS_j, catS_r, Option.toList_some, Option.toList_none, List.cons_append, List.nil_append, List.singleton_append, true_and, and_true, ne_eq, not_false_eq_true, not_true_eq_false, reduceCtorEq, if_true, if_false, true_or, or_true, false_or, or_false, Nat.reduceLT, Nat.reduceEqDiff, Nat.reduceAdd, Nat.reduceLeDiff, Int.reduceEq, Int.reduceNe, Int.reduceLT, Int.reduceLE, Int.reduceAdd, Int.reduceNeg, Int.reduceSub, Int.reduceMul]
theorem adS_0 {x : Int} : adS σ x 10 1 = σ 10 1 + 1 := by unfold adS; split <;> simp only [up_s, up_k, up_i, clr_n, clr_i, clr_j, clr_r, catS_n, catS_i, catS_j, catS_r, Option.toList_some, Option.toList_none, List.cons_append, List.nil_append, List.singleton_append, true_and, and_true, ne_eq, not_false_eq_true, not_true_eq_false, reduceCtorEq, if_true, if_false, true_or, or_true, false_or, or_false, Nat.reduceLT, Nat.reduceEqDiff, Nat.reduceAdd, Nat.reduceLeDiff, Int.reduceEq, Int.reduceNe, Int.reduceLT, Int.reduceLE, Int.reduceAdd, Int.reduceNeg, Int.reduceSub, Int.reduceMul]
end
