-- who clashes with whom within some days
section
variable {d : Nat} {sh : List Kd} {σ : Sto} {Q : Option AV → List Kd → Sto → Prop} {t : Nat} {M : Sto} {Ls : List (List Cl)}
/-- a number that holds these people -/
def peI (x : Int) (f : Int → Bool) : Prop := 0 ≤ x ∧ x < 64 ∧ ∀ v : Int, 0 ≤ v → v < 6 → x.toNat.testBit v.toNat = f v
theorem peI.cg {x : Int} {f g : Int → Bool} (h : peI x f) (e : ∀ v, 0 ≤ v → v < 6 → f v = g v) : peI x g := ⟨h.1, h.2.1, fun v v0 v1 => (h.2.2 v v0 v1).trans (e v v0 v1)⟩
theorem peI_0 : peI 0 (fun _ => false) := ⟨by omega, by omega, fun v _ _ => by simp⟩
theorem peI.eq {x y : Int} {f : Int → Bool} (h : peI x f) (h' : peI y f) : x = y := by
  have : x.toNat = y.toNat := by
    refine Nat.eq_of_testBit_eq (fun i => ?_)
    by_cases c : i < 6
    · have h1 := h.2.2 i (by omega) (by omega)
      have h2 := h'.2.2 i (by omega) (by omega)
      rw [Int.toNat_natCast] at h1 h2
      rw [h1, h2]
    · have l : 2 ^ 6 ≤ 2 ^ i := Nat.pow_le_pow_right (by omega) (by omega)
      rw [Nat.testBit_lt_two_pow (by have := h.2.1; have := h.1; omega), Nat.testBit_lt_two_pow (by have := h'.2.1; have := h'.1; omega)]
  have := h.1
  have := h'.1
  omega
theorem sb6 : ∀ x : Fin 64, ∀ v : Fin 6, 0 ≤ zor (x.val : Int) (zshl 1 (v.val : Int)) ∧ zor (x.val : Int) (zshl 1 (v.val : Int)) < 64 ∧ (zor (x.val : Int) (zshl 1 (v.val : Int))).toNat = x.val ||| 2 ^ v.val := by decide +kernel
theorem peI.or1 {x v : Int} {f : Int → Bool} (h : peI x f) (v0 : 0 ≤ v) (v1 : v < 6) : peI (zor x (zshl 1 v)) (fun u => f u || decide (u = v)) := by
  have s := sb6 ⟨x.toNat, by have := h.1; have := h.2.1; omega⟩ ⟨v.toNat, by omega⟩
  simp only [show ((x.toNat : Nat) : Int) = x by have := h.1; omega, show ((v.toNat : Nat) : Int) = v by omega] at s
  refine ⟨s.1, s.2.1, fun u u0 u1 => ?_⟩
  rw [s.2.2, Nat.testBit_or, h.2.2 u u0 u1, Nat.testBit_two_pow]
  rw [show decide (v.toNat = u.toNat) = decide (u = v) from decide_eq_decide.mpr (by omega)]
theorem peI.or0 {x : Int} {f : Int → Bool} (h : peI x f) : zor x 0 = x := by
  have := zor_0 (a := x.toNat) (by have := h.2.1; have := h.1; omega)
  rw [show ((x.toNat : Nat) : Int) = x by have := h.1; omega] at this
  exact this
theorem se_st {f : Int → Bool} {P : Int} (h0 : 0 ≤ P) (h1 : P ≤ 6) : peI (seN f P.toNat : Int) (fun v => decide (v < P) && f v) := by
  have l := seN_lt f P.toNat
  have e : 2 ^ P.toNat ≤ 2 ^ 6 := Nat.pow_le_pow_right (by omega) (by omega)
  refine ⟨by omega, by omega, fun v v0 v1 => ?_⟩
  rw [Int.toNat_natCast, seN_tb, show ((v.toNat : Nat) : Int) = v by omega, show decide (v.toNat < P.toNat) = decide (v < P) from decide_eq_decide.mpr (by omega)]
theorem cls_comm {a b n : Int} : cls M Ls a n b = cls M Ls b n a := by
  unfold cls
  rw [show od M Ls a b = od M Ls b a from by funext x; exact od_comm a b x]
/-- the foes of one -/
def agF (M : Sto) (Ls : List (List Cl)) (n p v : Int) : Bool := decide (¬ v = p) && cls M Ls p n v
def agN (M : Sto) (Ls : List (List Cl)) (n p : Int) : Nat := seN (agF M Ls n p) (M 0 0).toNat
theorem C_foesOf {n p : Int} (r : RepC σ M Ls) (hl : lkS M Ls σ n) (p0 : 0 ≤ p) (p1 : p < M 0 0) : Ex (d + 1) mX5_foesOf 0 [(some (.inr (.inr (some (45))))), (some (.inl (p))), none, none, none, none] [] shC σ Q = Q (some (.inl ((agN M Ls n p : Int)))) shC σ := by
  have w := r.wf.sc
  have key : ∀ (g : Nat) (v : Nat) (x4 x5 : Option AV), M 0 0 - v < g → v ≤ M 0 0 → Ex (d + 1) mX5_foesOf 4 [(some (.inr (.inr (some (45))))), (some (.inl (p))), (some (.inl ((seN (agF M Ls n p) v : Int)))), (some (.inl (v))), x4, x5] [] shC σ Q = Q (some (.inl ((agN M Ls n p : Int)))) shC σ := by
    intro g
    induction g with
    | zero => intros; omega
    | succ g ih =>
      intro v x4 x5 hg hv
      rw [sX5_foesOf_4]
      by_cases k : M 0 0 ≤ v
      · simp only [sX5_foesOf_1, sX5_foesOf_2, sX5_foesOf_3, sX5_foesOf_5, sX5_foesOf_6, sX5_foesOf_9, sX5_foesOf_12, sX5_foesOf_13, sX5_foesOf_14, sX5_foesOf_17, sX5_foesOf_19, sX5_foesOf_20, sX5_foesOf_21, sX5_foesOf_24, sX5_foesOf_26, sX5_foesOf_28, sX5_foesOf_30, sX5_foesOf_33, sX5_foesOf_34, sX5_foesOf_37, sX5_foesOf_39, sX5_foesOf_41, sX5_foesOf_44, sX5_foesOf_45, sX5_foesOf_48, sX5_foesOf_49, sX5_foesOf_50, sX5_foesOf_51, sX5_foesOf_52, sX5_foesOf_53, sX5_foesOf_54, sX5_foesOf_57, sX5_foesOf_60, sX5_foesOf_61, up_s, up_k, up_i, clr_n, clr_i, clr_j, clr_r, catS_n, catS_i, catS_j, catS_r, Option.toList_some, Option.toList_none, List.cons_append, List.nil_append, List.singleton_append, true_and, and_true, ne_eq, not_false_eq_true, not_true_eq_false, reduceCtorEq, if_true, if_false, true_or, or_true, false_or, or_false, Nat.reduceLT, Nat.reduceEqDiff, Nat.reduceAdd, Nat.reduceLeDiff, Int.reduceEq, Int.reduceNe, Int.reduceLT, Int.reduceLE, Int.reduceAdd, Int.reduceNeg, Int.reduceSub, Int.reduceMul, hC_0_0, hC_0_1, hC_0_2, hC_0_3, hC_0_4, hC_0_5, hC_0_6, hC_0_7, hC_0_8, hC_0_9, hC_0_10, hC_0_11, hC_0_12, hC_0_13, hC_0_14, hC_0_15, hC_0_16, hC_1_0, hC_1_1, hC_1_2, hC_1_3, hC_1_4, hC_1_5, hC_2_0, hC_3_0, hC_3_1, hC_3_2, hC_3_3, hC_3_4, hC_3_5, hC_3_6, hC_3_7, hC_3_8, hC_3_9, hC_3_10, hC_3_11, hC_3_12, hC_4_0, hC_5_0, hC_6_0, hC_7_0, hC_8_0, hC_9_0, hC_9_1, hC_9_2, hC_10_0, hC_10_1, hC_10_2, hC_10_3, hC_10_4, hC_10_5, hC_10_6, hC_10_7, hC_10_8, hC_11_0, hC_12_0, hC_13_0, hC_14_0, hC_14_1, hC_14_2, hC_14_3, hC_14_4, hC_14_5, hC_14_6, hC_14_7, hC_14_8, hC_14_9, hC_14_10, hC_14_11, hC_14_12, hC_14_13, hC_14_14, hC_14_15, hC_14_16, hC_14_17, hC_14_18, hC_14_19, hC_14_20, hC_14_21, hC_14_22, hC_14_23, hC_15_0, hC_16_0, hC_17_0, hC_18_0, hC_18_1, hC_18_2, hC_18_3, hC_18_4, hC_19_0, hC_20_0, hC_20_1, hC_20_2, hC_20_3, hC_20_4, hC_20_5, hC_20_6, hC_20_7, hC_20_8, hC_21_0, hC_22_0, hC_23_0, hC_24_0, hC_24_1, hC_24_2, hC_24_3, hC_24_4, hC_24_5, hC_24_6, hC_24_7, hC_24_8, hC_25_0, hC_26_0, hC_27_0, hC_28_0, hC_28_1, hC_28_2, hC_28_3, hC_28_4, hC_28_5, hC_28_6, hC_28_7, hC_28_8, hC_29_0, hC_30_0, hC_31_0, hC_32_0, hC_32_1, hC_32_2, hC_32_3, hC_32_4, hC_32_5, hC_32_6, hC_32_7, hC_32_8, hC_33_0, hC_34_0, hC_35_0, hC_36_0, hC_36_1, hC_36_2, hC_36_3, hC_36_4, hC_36_5, hC_36_6, hC_36_7, hC_36_8, hC_37_0, hC_38_0, hC_39_0, hC_39_1, hC_39_2, hC_39_3, hC_39_4, hC_39_5, hC_39_6, hC_39_7, hC_39_8, hC_40_0, hC_41_0, hC_42_0, hC_43_0, hC_44_0, hC_45_0, hC_45_1, hC_45_2, hC_45_3, hC_45_4, hC_45_5, hC_46_0, hC_47_0, hC_47_1, hC_47_2, hC_47_3, hC_47_4, hC_47_5, hC_47_6, hC_47_7, hC_47_8, hC_47_9, hC_47_10, hC_47_11, hC_47_12, hC_47_13, hC_48_0, hC_49_0, hC_50_0, hC_51_0, hC_52_0, hC_52_1, hC_52_2, hC_52_3, hC_52_4, hC_52_5, hC_52_6, hC_52_7, hC_52_8, hC_52_9, hC_52_10, hC_52_11, hC_52_12, hC_52_13, hC_53_0, hC_54_0, hC_55_0, hC_56_0, hC_57_0, hC_58_0, hC_58_1, hC_58_2, hC_59_0, hl.1, k]
        unfold agN
        rw [show (M 0 0).toNat = v by omega]
      · have e1 : w32 ((v : Int) + 1) = ((v + 1 : Nat) : Int) := by rw [w32_of ⟨by omega, by omega⟩]; omega
        have e3 := seN_or (f := agF M Ls n p) (n := v) (by omega)
        have i1 := fun x4 x5 => ih (v + 1) x4 x5 (by omega) (by omega)
        by_cases c : (v : Int) = p
        · have f0 : agF M Ls n p v = false := by unfold agF; rw [decide_eq_false (fun q => q c), Bool.false_and]
          have mm : min p (v : Int) = max p v := by omega
          simp only [seN, f0, Bool.false_eq_true, if_false, Nat.add_zero] at i1
          simp only [sX5_foesOf_1, sX5_foesOf_2, sX5_foesOf_3, sX5_foesOf_5, sX5_foesOf_6, sX5_foesOf_9, sX5_foesOf_12, sX5_foesOf_13, sX5_foesOf_14, sX5_foesOf_17, sX5_foesOf_19, sX5_foesOf_20, sX5_foesOf_21, sX5_foesOf_24, sX5_foesOf_26, sX5_foesOf_28, sX5_foesOf_30, sX5_foesOf_33, sX5_foesOf_34, sX5_foesOf_37, sX5_foesOf_39, sX5_foesOf_41, sX5_foesOf_44, sX5_foesOf_45, sX5_foesOf_48, sX5_foesOf_49, sX5_foesOf_50, sX5_foesOf_51, sX5_foesOf_52, sX5_foesOf_53, sX5_foesOf_54, sX5_foesOf_57, sX5_foesOf_60, sX5_foesOf_61, up_s, up_k, up_i, clr_n, clr_i, clr_j, clr_r, catS_n, catS_i, catS_j, catS_r, Option.toList_some, Option.toList_none, List.cons_append, List.nil_append, List.singleton_append, true_and, and_true, ne_eq, not_false_eq_true, not_true_eq_false, reduceCtorEq, if_true, if_false, true_or, or_true, false_or, or_false, Nat.reduceLT, Nat.reduceEqDiff, Nat.reduceAdd, Nat.reduceLeDiff, Int.reduceEq, Int.reduceNe, Int.reduceLT, Int.reduceLE, Int.reduceAdd, Int.reduceNeg, Int.reduceSub, Int.reduceMul, hC_0_0, hC_0_1, hC_0_2, hC_0_3, hC_0_4, hC_0_5, hC_0_6, hC_0_7, hC_0_8, hC_0_9, hC_0_10, hC_0_11, hC_0_12, hC_0_13, hC_0_14, hC_0_15, hC_0_16, hC_1_0, hC_1_1, hC_1_2, hC_1_3, hC_1_4, hC_1_5, hC_2_0, hC_3_0, hC_3_1, hC_3_2, hC_3_3, hC_3_4, hC_3_5, hC_3_6, hC_3_7, hC_3_8, hC_3_9, hC_3_10, hC_3_11, hC_3_12, hC_4_0, hC_5_0, hC_6_0, hC_7_0, hC_8_0, hC_9_0, hC_9_1, hC_9_2, hC_10_0, hC_10_1, hC_10_2, hC_10_3, hC_10_4, hC_10_5, hC_10_6, hC_10_7, hC_10_8, hC_11_0, hC_12_0, hC_13_0, hC_14_0, hC_14_1, hC_14_2, hC_14_3, hC_14_4, hC_14_5, hC_14_6, hC_14_7, hC_14_8, hC_14_9, hC_14_10, hC_14_11, hC_14_12, hC_14_13, hC_14_14, hC_14_15, hC_14_16, hC_14_17, hC_14_18, hC_14_19, hC_14_20, hC_14_21, hC_14_22, hC_14_23, hC_15_0, hC_16_0, hC_17_0, hC_18_0, hC_18_1, hC_18_2, hC_18_3, hC_18_4, hC_19_0, hC_20_0, hC_20_1, hC_20_2, hC_20_3, hC_20_4, hC_20_5, hC_20_6, hC_20_7, hC_20_8, hC_21_0, hC_22_0, hC_23_0, hC_24_0, hC_24_1, hC_24_2, hC_24_3, hC_24_4, hC_24_5, hC_24_6, hC_24_7, hC_24_8, hC_25_0, hC_26_0, hC_27_0, hC_28_0, hC_28_1, hC_28_2, hC_28_3, hC_28_4, hC_28_5, hC_28_6, hC_28_7, hC_28_8, hC_29_0, hC_30_0, hC_31_0, hC_32_0, hC_32_1, hC_32_2, hC_32_3, hC_32_4, hC_32_5, hC_32_6, hC_32_7, hC_32_8, hC_33_0, hC_34_0, hC_35_0, hC_36_0, hC_36_1, hC_36_2, hC_36_3, hC_36_4, hC_36_5, hC_36_6, hC_36_7, hC_36_8, hC_37_0, hC_38_0, hC_39_0, hC_39_1, hC_39_2, hC_39_3, hC_39_4, hC_39_5, hC_39_6, hC_39_7, hC_39_8, hC_40_0, hC_41_0, hC_42_0, hC_43_0, hC_44_0, hC_45_0, hC_45_1, hC_45_2, hC_45_3, hC_45_4, hC_45_5, hC_46_0, hC_47_0, hC_47_1, hC_47_2, hC_47_3, hC_47_4, hC_47_5, hC_47_6, hC_47_7, hC_47_8, hC_47_9, hC_47_10, hC_47_11, hC_47_12, hC_47_13, hC_48_0, hC_49_0, hC_50_0, hC_51_0, hC_52_0, hC_52_1, hC_52_2, hC_52_3, hC_52_4, hC_52_5, hC_52_6, hC_52_7, hC_52_8, hC_52_9, hC_52_10, hC_52_11, hC_52_12, hC_52_13, hC_53_0, hC_54_0, hC_55_0, hC_56_0, hC_57_0, hC_58_0, hC_58_1, hC_58_2, hC_59_0, hl.1, k, c_min, c_max, eq_true mm, e1]
          exact i1 _ _
        · have mm : ¬ min p (v : Int) = max p v := by omega
          have ip : isPa (min p v) (max p v) := ⟨by omega, by omega, by omega⟩
          have hz := (hl.2.2.2.and (mkI_1 ip)).zero
          have ag : agF M Ls n p v = cls M Ls (min p v) n (max p v) := by
            unfold agF
            rw [decide_eq_true c, Bool.true_and]
            rcases Int.le_total p v with q | q
            · rw [Int.min_eq_left q, Int.max_eq_right q]
            · rw [Int.min_eq_right q, Int.max_eq_left q, cls_comm]
          have zi : zand (σ 45 2) ((2 ^ pix (min p v) (max p v) : Nat) : Int) = 0 ↔ agF M Ls n p v = false := by
            rw [hz, ag]
            constructor
            · intro q
              have := q _ _ ip
              dsimp only at this
              rw [decide_eq_true (show max p (v : Int) < M 0 0 by omega), decide_eq_true (show min p (v : Int) = min p v ∧ max p (v : Int) = max p v from ⟨rfl, rfl⟩), Bool.true_and, Bool.and_true] at this
              exact this
            · intro q a b _
              dsimp only
              by_cases e : a = min p (v : Int) ∧ b = max p (v : Int)
              · rw [e.1, e.2, q, Bool.and_false, Bool.false_and]
              · rw [decide_eq_false e, Bool.and_false]
          by_cases o : agF M Ls n p v = true
          · have z : ¬ zand (σ 45 2) ((2 ^ pix (min p v) (max p v) : Nat) : Int) = 0 := fun q => by rw [zi.mp q] at o; cases o
            simp only [seN, o, if_true] at i1
            simp only [sX5_foesOf_1, sX5_foesOf_2, sX5_foesOf_3, sX5_foesOf_5, sX5_foesOf_6, sX5_foesOf_9, sX5_foesOf_12, sX5_foesOf_13, sX5_foesOf_14, sX5_foesOf_17, sX5_foesOf_19, sX5_foesOf_20, sX5_foesOf_21, sX5_foesOf_24, sX5_foesOf_26, sX5_foesOf_28, sX5_foesOf_30, sX5_foesOf_33, sX5_foesOf_34, sX5_foesOf_37, sX5_foesOf_39, sX5_foesOf_41, sX5_foesOf_44, sX5_foesOf_45, sX5_foesOf_48, sX5_foesOf_49, sX5_foesOf_50, sX5_foesOf_51, sX5_foesOf_52, sX5_foesOf_53, sX5_foesOf_54, sX5_foesOf_57, sX5_foesOf_60, sX5_foesOf_61, up_s, up_k, up_i, clr_n, clr_i, clr_j, clr_r, catS_n, catS_i, catS_j, catS_r, Option.toList_some, Option.toList_none, List.cons_append, List.nil_append, List.singleton_append, true_and, and_true, ne_eq, not_false_eq_true, not_true_eq_false, reduceCtorEq, if_true, if_false, true_or, or_true, false_or, or_false, Nat.reduceLT, Nat.reduceEqDiff, Nat.reduceAdd, Nat.reduceLeDiff, Int.reduceEq, Int.reduceNe, Int.reduceLT, Int.reduceLE, Int.reduceAdd, Int.reduceNeg, Int.reduceSub, Int.reduceMul, hC_0_0, hC_0_1, hC_0_2, hC_0_3, hC_0_4, hC_0_5, hC_0_6, hC_0_7, hC_0_8, hC_0_9, hC_0_10, hC_0_11, hC_0_12, hC_0_13, hC_0_14, hC_0_15, hC_0_16, hC_1_0, hC_1_1, hC_1_2, hC_1_3, hC_1_4, hC_1_5, hC_2_0, hC_3_0, hC_3_1, hC_3_2, hC_3_3, hC_3_4, hC_3_5, hC_3_6, hC_3_7, hC_3_8, hC_3_9, hC_3_10, hC_3_11, hC_3_12, hC_4_0, hC_5_0, hC_6_0, hC_7_0, hC_8_0, hC_9_0, hC_9_1, hC_9_2, hC_10_0, hC_10_1, hC_10_2, hC_10_3, hC_10_4, hC_10_5, hC_10_6, hC_10_7, hC_10_8, hC_11_0, hC_12_0, hC_13_0, hC_14_0, hC_14_1, hC_14_2, hC_14_3, hC_14_4, hC_14_5, hC_14_6, hC_14_7, hC_14_8, hC_14_9, hC_14_10, hC_14_11, hC_14_12, hC_14_13, hC_14_14, hC_14_15, hC_14_16, hC_14_17, hC_14_18, hC_14_19, hC_14_20, hC_14_21, hC_14_22, hC_14_23, hC_15_0, hC_16_0, hC_17_0, hC_18_0, hC_18_1, hC_18_2, hC_18_3, hC_18_4, hC_19_0, hC_20_0, hC_20_1, hC_20_2, hC_20_3, hC_20_4, hC_20_5, hC_20_6, hC_20_7, hC_20_8, hC_21_0, hC_22_0, hC_23_0, hC_24_0, hC_24_1, hC_24_2, hC_24_3, hC_24_4, hC_24_5, hC_24_6, hC_24_7, hC_24_8, hC_25_0, hC_26_0, hC_27_0, hC_28_0, hC_28_1, hC_28_2, hC_28_3, hC_28_4, hC_28_5, hC_28_6, hC_28_7, hC_28_8, hC_29_0, hC_30_0, hC_31_0, hC_32_0, hC_32_1, hC_32_2, hC_32_3, hC_32_4, hC_32_5, hC_32_6, hC_32_7, hC_32_8, hC_33_0, hC_34_0, hC_35_0, hC_36_0, hC_36_1, hC_36_2, hC_36_3, hC_36_4, hC_36_5, hC_36_6, hC_36_7, hC_36_8, hC_37_0, hC_38_0, hC_39_0, hC_39_1, hC_39_2, hC_39_3, hC_39_4, hC_39_5, hC_39_6, hC_39_7, hC_39_8, hC_40_0, hC_41_0, hC_42_0, hC_43_0, hC_44_0, hC_45_0, hC_45_1, hC_45_2, hC_45_3, hC_45_4, hC_45_5, hC_46_0, hC_47_0, hC_47_1, hC_47_2, hC_47_3, hC_47_4, hC_47_5, hC_47_6, hC_47_7, hC_47_8, hC_47_9, hC_47_10, hC_47_11, hC_47_12, hC_47_13, hC_48_0, hC_49_0, hC_50_0, hC_51_0, hC_52_0, hC_52_1, hC_52_2, hC_52_3, hC_52_4, hC_52_5, hC_52_6, hC_52_7, hC_52_8, hC_52_9, hC_52_10, hC_52_11, hC_52_12, hC_52_13, hC_53_0, hC_54_0, hC_55_0, hC_56_0, hC_57_0, hC_58_0, hC_58_1, hC_58_2, hC_59_0, hl.1, k, c_min, c_max, mm, c_pairBit ip, z, e1, e3]
            exact i1 _ _
          · have z := zi.mpr (Bool.eq_false_iff.mpr o)
            simp only [seN, o, if_false, Nat.add_zero, Bool.false_eq_true] at i1
            simp only [sX5_foesOf_1, sX5_foesOf_2, sX5_foesOf_3, sX5_foesOf_5, sX5_foesOf_6, sX5_foesOf_9, sX5_foesOf_12, sX5_foesOf_13, sX5_foesOf_14, sX5_foesOf_17, sX5_foesOf_19, sX5_foesOf_20, sX5_foesOf_21, sX5_foesOf_24, sX5_foesOf_26, sX5_foesOf_28, sX5_foesOf_30, sX5_foesOf_33, sX5_foesOf_34, sX5_foesOf_37, sX5_foesOf_39, sX5_foesOf_41, sX5_foesOf_44, sX5_foesOf_45, sX5_foesOf_48, sX5_foesOf_49, sX5_foesOf_50, sX5_foesOf_51, sX5_foesOf_52, sX5_foesOf_53, sX5_foesOf_54, sX5_foesOf_57, sX5_foesOf_60, sX5_foesOf_61, up_s, up_k, up_i, clr_n, clr_i, clr_j, clr_r, catS_n, catS_i, catS_j, catS_r, Option.toList_some, Option.toList_none, List.cons_append, List.nil_append, List.singleton_append, true_and, and_true, ne_eq, not_false_eq_true, not_true_eq_false, reduceCtorEq, if_true, if_false, true_or, or_true, false_or, or_false, Nat.reduceLT, Nat.reduceEqDiff, Nat.reduceAdd, Nat.reduceLeDiff, Int.reduceEq, Int.reduceNe, Int.reduceLT, Int.reduceLE, Int.reduceAdd, Int.reduceNeg, Int.reduceSub, Int.reduceMul, hC_0_0, hC_0_1, hC_0_2, hC_0_3, hC_0_4, hC_0_5, hC_0_6, hC_0_7, hC_0_8, hC_0_9, hC_0_10, hC_0_11, hC_0_12, hC_0_13, hC_0_14, hC_0_15, hC_0_16, hC_1_0, hC_1_1, hC_1_2, hC_1_3, hC_1_4, hC_1_5, hC_2_0, hC_3_0, hC_3_1, hC_3_2, hC_3_3, hC_3_4, hC_3_5, hC_3_6, hC_3_7, hC_3_8, hC_3_9, hC_3_10, hC_3_11, hC_3_12, hC_4_0, hC_5_0, hC_6_0, hC_7_0, hC_8_0, hC_9_0, hC_9_1, hC_9_2, hC_10_0, hC_10_1, hC_10_2, hC_10_3, hC_10_4, hC_10_5, hC_10_6, hC_10_7, hC_10_8, hC_11_0, hC_12_0, hC_13_0, hC_14_0, hC_14_1, hC_14_2, hC_14_3, hC_14_4, hC_14_5, hC_14_6, hC_14_7, hC_14_8, hC_14_9, hC_14_10, hC_14_11, hC_14_12, hC_14_13, hC_14_14, hC_14_15, hC_14_16, hC_14_17, hC_14_18, hC_14_19, hC_14_20, hC_14_21, hC_14_22, hC_14_23, hC_15_0, hC_16_0, hC_17_0, hC_18_0, hC_18_1, hC_18_2, hC_18_3, hC_18_4, hC_19_0, hC_20_0, hC_20_1, hC_20_2, hC_20_3, hC_20_4, hC_20_5, hC_20_6, hC_20_7, hC_20_8, hC_21_0, hC_22_0, hC_23_0, hC_24_0, hC_24_1, hC_24_2, hC_24_3, hC_24_4, hC_24_5, hC_24_6, hC_24_7, hC_24_8, hC_25_0, hC_26_0, hC_27_0, hC_28_0, hC_28_1, hC_28_2, hC_28_3, hC_28_4, hC_28_5, hC_28_6, hC_28_7, hC_28_8, hC_29_0, hC_30_0, hC_31_0, hC_32_0, hC_32_1, hC_32_2, hC_32_3, hC_32_4, hC_32_5, hC_32_6, hC_32_7, hC_32_8, hC_33_0, hC_34_0, hC_35_0, hC_36_0, hC_36_1, hC_36_2, hC_36_3, hC_36_4, hC_36_5, hC_36_6, hC_36_7, hC_36_8, hC_37_0, hC_38_0, hC_39_0, hC_39_1, hC_39_2, hC_39_3, hC_39_4, hC_39_5, hC_39_6, hC_39_7, hC_39_8, hC_40_0, hC_41_0, hC_42_0, hC_43_0, hC_44_0, hC_45_0, hC_45_1, hC_45_2, hC_45_3, hC_45_4, hC_45_5, hC_46_0, hC_47_0, hC_47_1, hC_47_2, hC_47_3, hC_47_4, hC_47_5, hC_47_6, hC_47_7, hC_47_8, hC_47_9, hC_47_10, hC_47_11, hC_47_12, hC_47_13, hC_48_0, hC_49_0, hC_50_0, hC_51_0, hC_52_0, hC_52_1, hC_52_2, hC_52_3, hC_52_4, hC_52_5, hC_52_6, hC_52_7, hC_52_8, hC_52_9, hC_52_10, hC_52_11, hC_52_12, hC_52_13, hC_53_0, hC_54_0, hC_55_0, hC_56_0, hC_57_0, hC_58_0, hC_58_1, hC_58_2, hC_59_0, hl.1, k, c_min, c_max, mm, c_pairBit ip, z, e1]
            exact i1 _ _
  rw [sX5_foesOf_0]
  simp only [sX5_foesOf_1, sX5_foesOf_2, sX5_foesOf_3, sX5_foesOf_5, sX5_foesOf_6, sX5_foesOf_9, sX5_foesOf_12, sX5_foesOf_13, sX5_foesOf_14, sX5_foesOf_17, sX5_foesOf_19, sX5_foesOf_20, sX5_foesOf_21, sX5_foesOf_24, sX5_foesOf_26, sX5_foesOf_28, sX5_foesOf_30, sX5_foesOf_33, sX5_foesOf_34, sX5_foesOf_37, sX5_foesOf_39, sX5_foesOf_41, sX5_foesOf_44, sX5_foesOf_45, sX5_foesOf_48, sX5_foesOf_49, sX5_foesOf_50, sX5_foesOf_51, sX5_foesOf_52, sX5_foesOf_53, sX5_foesOf_54, sX5_foesOf_57, sX5_foesOf_60, sX5_foesOf_61, up_s, up_k, up_i, clr_n, clr_i, clr_j, clr_r, catS_n, catS_i, catS_j, catS_r, Option.toList_some, Option.toList_none, List.cons_append, List.nil_append, List.singleton_append, true_and, and_true, ne_eq, not_false_eq_true, not_true_eq_false, reduceCtorEq, if_true, if_false, true_or, or_true, false_or, or_false, Nat.reduceLT, Nat.reduceEqDiff, Nat.reduceAdd, Nat.reduceLeDiff, Int.reduceEq, Int.reduceNe, Int.reduceLT, Int.reduceLE, Int.reduceAdd, Int.reduceNeg, Int.reduceSub, Int.reduceMul]
  exact key ((M 0 0).toNat + 1) 0 none none (by omega) (by omega)
end
