section
variable {d : Nat} {sh : List Kd} {σ : Sto} {Q : Option AV → List Kd → Sto → Prop} {t : Nat} {b : Int → Int} {n : Int} {ρ : Int → Int}
/-- the number that steps make -/
def vlS (ρ : Int → Int) (w : List Int) : Int := (rnS ρ w []).headD 0
theorem mkS.vl {w : List Int} {v : Int} (h : mkS ρ w v) : vlS ρ w = v := by unfold vlS; rw [h]; rfl
/-- what a clause says, if its condition holds -/
def clV (ρ : Int → Int) (c : Option (List Int) × List Int) : Option Int := match c with
  | (none, s) => some (vlS ρ s)
  | (some w, s) => if vlS ρ w = 0 then none else some (vlS ρ s)
def FrX (σ σ' : Sto) : Prop := ∀ k i, ¬ (k = 0 ∧ (i = 10 ∨ i = 11 ∨ i = 12 ∨ i = 14 ∨ i = 17)) → σ' k i = σ k i
theorem FrX.rf {σ : Sto} : FrX σ σ := fun _ _ _ => rfl
theorem FrX.tr {a b c : Sto} (h1 : FrX a b) (h2 : FrX b c) : FrX a c := fun k i h => (h2 k i h).trans (h1 k i h)
theorem FrV.x {σ σ' : Sto} (h : FrV σ σ') : FrX σ σ' := fun k i q => h k i (by omega)
theorem FrX.up {σ σ' : Sto} {v : Int} (h : FrX σ σ') (i : Int) (hi : i = 10 ∨ i = 11 ∨ i = 12 ∨ i = 14 ∨ i = 17) : FrX σ (up σ' 0 i v) := fun k j h' => by
  rw [show _root_.Jvm.Pilot.@@N@@.up σ' 0 i v k j = σ' k j from by simp only [_root_.Jvm.Pilot.@@N@@.up]; rw [if_neg (by rintro ⟨rfl, rfl⟩; omega)]]; exact h k j h'
theorem FrX.R {σ σ' : Sto} (h : FrX σ σ') (ht : t = 1 ∨ t = 2) : bR t σ' = bR t σ ∧ σ' 0 9 = σ 0 9 := ⟨by funext i; simp only [bR]; rw [h t _ (by omega), h 0 8 (by omega)], h 0 9 (by omega)⟩
theorem FrX.ok {σ σ' : Sto} (h : FrX σ σ') (hr : rdOK t σ) (h0 : 0 ≤ σ' 0 10) (h1 : σ' 0 10 ≤ σ 0 9) : rdOK t σ' := by
  obtain ⟨ht, g0, g1, g2, g3, g4⟩ := hr
  refine ⟨ht, by rw [h 0 8 (by omega)]; exact g0, h0, by rw [h 0 9 (by omega)]; exact h1, by rw [h 0 8 (by omega), h 0 9 (by omega)]; exact g3, fun i => by rw [h t i (by omega)]; exact g4 i⟩
theorem leR_x {σ σ' : Sto} (h : FrX σ σ') : leR σ' = leR σ := by
  funext k
  unfold leR
  rw [h 4 97 (by omega), h 4 98 (by omega), h 4 120 (by omega), h 4 121 (by omega), h 4 110 (by omega)]
theorem FrX.bs {σ σ' : Sto} (h : FrX σ σ') (hr : rdOK t σ) (hb : bR t σ = b) (hn : σ 0 9 = n) (hl : leR σ = ρ) : bR t σ' = b ∧ σ' 0 9 = n ∧ leR σ' = ρ :=
  ⟨by rw [(h.R hr.1).1]; exact hb, by rw [(h.R hr.1).2]; exact hn, by rw [leR_x h]; exact hl⟩
theorem moS_gp {A : Ps} {op : Int → Int} (hA : gdS n A) (ho : opK op) : ∀ (f : Nat) (w : List Int) (i : Int), 0 ≤ i → i ≤ n → match moS b n A op f w i with
    | .inl (_, j) => i ≤ j ∧ j ≤ n
    | .inr j => i ≤ j ∧ j ≤ n := by
  intro f
  induction f with
  | zero => intro w i h1 h2; have hk := sk_le (b := b) h2; exact ⟨by omega, by omega⟩
  | succ f ih =>
    intro w i h1 h2
    have hk := sk_le (b := b) h2
    simp only [moS]
    by_cases c : op (at_ b n (sk b n i)) = -1
    · rw [if_pos c]; exact ⟨by omega, by omega⟩
    · rw [if_neg c]
      have hl := op_lt ho c
      have hS := hA (sk b n i + 1) (by omega) (by omega)
      generalize A (sk b n i + 1) = z at *
      cases z with
      | inr j => simp only at hS ⊢; omega
      | inl y =>
        obtain ⟨w1, j⟩ := y
        simp only at hS ⊢
        have := ih (w ++ w1 ++ [op (at_ b n (sk b n i))]) j (by omega) (by omega)
        generalize moS b n A op f (w ++ w1 ++ [op (at_ b n (sk b n i))]) j = z2 at *
        cases z2 with
        | inr j2 => simp only at this ⊢; omega
        | inl y2 => obtain ⟨w2, j2⟩ := y2; simp only at this ⊢; omega
theorem gp_fi {F A : Ps} {op : Int → Int} (hF : gpS n F) (hA : gdS n A) (ho : opK op) : gpS n (fiS b n F A op) := fun i h0 h1 => by
  have h := hF i h0 h1
  unfold fiS
  generalize F i = z at *
  cases z with
  | inr j => exact h
  | inl y =>
    obtain ⟨w, j⟩ := y
    simp only at h ⊢
    have := moS_gp (b := b) hA ho 160 w j (by omega) (by omega)
    generalize moS b n A op 160 w j = z2 at *
    cases z2 with
    | inr j2 => simp only at this ⊢; omega
    | inl y2 => obtain ⟨w2, j2⟩ := y2; simp only at this ⊢; omega
/-- a clause whose condition begins with a sum -/
def cnS (b : Int → Int) (n : Int) (w : List Int) : Ps := fiS b n (fiS b n (preS w (reS b n (suS b n 6))) (utS b n 6) opA) (onS b n (utS b n 6) opA) opO
theorem gp_cn {w : List Int} : gpS n (cnS b n w) := gp_fi (gp_fi (gp_pre (gd_re (b := b) (gd_su (b := b) 6)).gp) (gd_ut 6) opA_k) (gd_on (b := b) (gd_ut 6) opA_k) opO_k
def lnS (b : Int → Int) (n : Int) (w : List Int) (k : Int) : ((Option (List Int) × List Int) × Int) ⊕ Int := match reS b n (suS b n 6) k with
          | .inr j3 => .inr j3
          | .inl (w1, j3) => match moS b n (utS b n 6) opA 160 (w ++ w1) j3 with
            | .inr j4 => .inr j4
            | .inl (w2, j4) => match moS b n (onS b n (utS b n 6) opA) opO 160 w2 j4 with
              | .inr j5 => .inr j5
              | .inl (w3, j5) => guS b n w3 j5
theorem lcS_eq {i : Int} : lcS b n i = match paC b n 121 i with
  | .inr j => .inr j
  | .inl j => match paC b n 58 j with
    | .inr j1 => .inr j1
    | .inl j1 => if at_ b n (sk b n j1) = 33 ∨ at_ b n (sk b n j1) = 40 then
        (match onS b n (onS b n (utS b n 6) opA) opO (sk b n j1) with
         | .inr j2 => .inr j2
         | .inl (w, j2) => guS b n w j2)
      else (match suS b n 6 (sk b n j1) with
        | .inr j2 => .inr j2
        | .inl (w, j2) => if rlS (at_ b n (sk b n j2)) = -1 then .inl ((none, w), sk b n j2) else lnS b n w (sk b n j2)) := rfl
theorem lc_cn {w : List Int} {k : Int} : lnS b n w k = (match cnS b n w k with
    | .inr j => .inr j
    | .inl (w3, j5) => guS b n w3 j5) := by
  unfold lnS
  unfold cnS fiS preS
  generalize reS b n (suS b n 6) k = z
  cases z with
  | inr j => rfl
  | inl y =>
    obtain ⟨w1, j3⟩ := y
    simp only
    generalize moS b n (utS b n 6) opA 160 (w ++ w1) j3 = z2
    cases z2 with
    | inr j => rfl
    | inl y2 => obtain ⟨w2, j4⟩ := y2; rfl
theorem R_condS (hρ : ∀ k, VI (ρ k)) (h160 : n ≤ 160) {w : List Int} {v : Int} (hw : mkS ρ w v) {m : Nat} (hm : 26 ≤ m) : RQ t b n ρ VB m mX12_condition 0 [some (.inl 1), some (.inl v), none, none] (cnS b n w) := by
  have hu := R_units (t := t) (b := b) hρ h160 6 (by omega)
  have h1 := R_cmp1 (d := m - 4) (gd_su (b := b) 6) (R_sums (t := t) hρ h160 6 (by omega) (m - 4 + 1) (by omega)) hw
  have h2 := R_part1 (d := m - 3) (gd_ut (b := b) 6) (hu (m - 3 + 1) (by omega)) (gp_pre (gd_re (b := b) (gd_su (b := b) 6)).gp) (by rw [show m - 3 + 1 = m - 4 + 2 by omega]; exact h1) h160
  have h3 := R_cond (d := m - 2) (gd_on (b := b) (gd_ut 6) opA_k) (R_partG (gd_ut 6) hu h160 (m := m - 2 + 1) (by omega) (by omega)) (gp_fi (gp_pre (gd_re (b := b) (gd_su (b := b) 6)).gp) (gd_ut 6) opA_k) (by rw [show m - 2 + 1 = m - 3 + 2 by omega]; exact h2) h160
  rw [show m - 2 + 2 = m by omega] at h3
  exact h3
/-- what was found, and whether, after a clause -/
def fdS (r : Option Int) (σ σ' : Sto) : Prop := match r with
  | some v => if σ 0 17 = 0 then σ' 0 17 = 1 ∧ σ' 0 14 = v else σ' 0 17 = σ 0 17 ∧ σ' 0 14 = σ 0 14
  | none => σ' 0 17 = σ 0 17 ∧ σ' 0 14 = σ 0 14
theorem R_clauseF {a4 v is : Int} {τ : Sto} (hF : FrV τ σ) (hf : σ 0 11 = -1) (h13 : τ 0 13 = 121) (hQ : ∀ σ', FrX σ σ' → σ' 0 10 = σ 0 10 → σ' 0 11 = -1 → σ' 0 12 = σ 0 12 → fdS (if is = 0 then none else some v) τ σ' → Q none (shR t) σ') : Ex d mX12_clause 134 [some (.inr (.inr (some 0))), some (.inl 121), some (.inl is), some (.inl v), some (.inl a4)] [] (shR t) σ Q := by
  have e1 : σ 0 13 = 121 := by rw [hF 0 13 (by omega)]; exact h13
  have e2 : σ 0 17 = τ 0 17 := hF 0 17 (by omega)
  have e3 : σ 0 14 = τ 0 14 := hF 0 14 (by omega)
  rw [sX12_clause_134]
  by_cases c1 : τ 0 17 = 0
  · by_cases c2 : is = 0
    · simp only [sX12_clause_0, sX12_clause_1, sX12_clause_4, sX12_clause_5, sX12_clause_7, sX12_clause_8, sX12_clause_11, sX12_clause_14, sX12_clause_15, sX12_clause_18, sX12_clause_19, sX12_clause_20, sX12_clause_21, sX12_clause_21r, sX12_clause_22, sX12_clause_25, sX12_clause_26, sX12_clause_27, sX12_clause_30, sX12_clause_31, sX12_clause_33, sX12_clause_36, sX12_clause_39, sX12_clause_40, sX12_clause_41, sX12_clause_42, sX12_clause_43, sX12_clause_44, sX12_clause_45, sX12_clause_48, sX12_clause_50, sX12_clause_52, sX12_clause_54, sX12_clause_57, sX12_clause_59, sX12_clause_61, sX12_clause_64, sX12_clause_65, sX12_clause_66, sX12_clause_67, sX12_clause_70, sX12_clause_71, sX12_clause_72, sX12_clause_74, sX12_clause_77, sX12_clause_80, sX12_clause_81, sX12_clause_82, sX12_clause_85, sX12_clause_86, sX12_clause_89, sX12_clause_90, sX12_clause_93, sX12_clause_94, sX12_clause_95, sX12_clause_98, sX12_clause_99, sX12_clause_102, sX12_clause_103, sX12_clause_106, sX12_clause_109, sX12_clause_112, sX12_clause_113, sX12_clause_114, sX12_clause_115, sX12_clause_118, sX12_clause_119, sX12_clause_120, sX12_clause_122, sX12_clause_125, sX12_clause_128, sX12_clause_129, sX12_clause_130, sX12_clause_133, sX12_clause_135, sX12_clause_138, sX12_clause_139, sX12_clause_142, sX12_clause_143, sX12_clause_146, sX12_clause_149, sX12_clause_150, sX12_clause_151, sX12_clause_154, sX12_clause_157, sX12_clause_158, sX12_clause_161, sX12_clause_162, sX12_clause_163, sX12_clause_164, sX12_clause_167, sX12_clause_168, sX12_clause_169, sX12_clause_172, up_s, up_k, up_i, clr_n, clr_i, clr_j, clr_r, catS_n, catS_i, catS_j, catS_r, Option.toList_some, Option.toList_none, List.cons_append, List.nil_append, List.singleton_append, true_and, and_true, ne_eq, not_false_eq_true, not_true_eq_false, reduceCtorEq, if_true, if_false, true_or, or_true, false_or, or_false, Nat.reduceLT, Nat.reduceEqDiff, Nat.reduceAdd, Nat.reduceLeDiff, Int.reduceEq, Int.reduceNe, Int.reduceLT, Int.reduceLE, Int.reduceAdd, Int.reduceNeg, Int.reduceSub, Int.reduceMul, hR_0_0, hR_0_1, hR_0_2, hR_0_3, hR_0_4, hR_0_5, hR_0_6, hR_0_7, hR_0_8, hR_0_9, hR_0_10, hR_0_11, hR_0_12, hR_0_13, hR_0_14, hR_0_15, hR_0_16, hR_0_17, hR_0_18, hR_0_19, hR_0_20, hR_0_21, hR_0_22, hR_0_23, hR_0_24, hR_0_25, hR_0_26, hR_0_27, hR_0_28, hR_0_29, hR_0_30, hR_0_31, hR_0_32, hR_0_33, hR_0_34, hR_0_35, hR_0_36, hR_0_37, hR_0_38, hR_0_39, hR_0_40, hR_0_41, hR_0_42, hR_0_43, hR_0_44, hR_0_45, hR_0_46, hR_0_47, hR_0_48, hR_0_49, hR_0_50, hR_0_51, hR_0_52, hR_0_53, hR_0_54, hR_0_55, hR_0_56, hR_0_57, hR_0_58, hR_0_59, hR_0_60, hR_0_61, hR_0_62, hR_0_63, hR_0_64, hR_0_65, hR_0_66, hR_0_67, hR_0_68, hR_0_69, hR_0_70, hR_0_71, hR_0_72, hR_0_73, hR_0_74, hR_0_75, hR_0_76, hR_0_77, hR_0_78, hR_0_79, hR_0_80, hR_0_81, hR_0_82, hR_0_83, hR_0_84, hR_0_85, hR_0_86, hR_0_87, hR_0_88, hR_0_89, hR_0_90, hR_1_0, hR_2_0, hR_3_0, hR_4_0, hR_5_0, hR_6_0, hR_7_0, hR_8_0, hR_9_0, hR_10_0, hR_11_0, hR_12_0, hR_13_0, hR_14_0, hR_15_0, hR_16_0, hR_17_0, hR_18_0, hR_19_0, hR_20_0, hR_21_0, hR_22_0, hR_23_0, hR_24_0, hR_25_0, hR_26_0, hR_27_0, hf, e1, e2, c1, c2]
      exact hQ σ FrX.rf rfl hf rfl (by rw [if_pos c2]; exact ⟨e2, e3⟩)
    · simp only [sX12_clause_0, sX12_clause_1, sX12_clause_4, sX12_clause_5, sX12_clause_7, sX12_clause_8, sX12_clause_11, sX12_clause_14, sX12_clause_15, sX12_clause_18, sX12_clause_19, sX12_clause_20, sX12_clause_21, sX12_clause_21r, sX12_clause_22, sX12_clause_25, sX12_clause_26, sX12_clause_27, sX12_clause_30, sX12_clause_31, sX12_clause_33, sX12_clause_36, sX12_clause_39, sX12_clause_40, sX12_clause_41, sX12_clause_42, sX12_clause_43, sX12_clause_44, sX12_clause_45, sX12_clause_48, sX12_clause_50, sX12_clause_52, sX12_clause_54, sX12_clause_57, sX12_clause_59, sX12_clause_61, sX12_clause_64, sX12_clause_65, sX12_clause_66, sX12_clause_67, sX12_clause_70, sX12_clause_71, sX12_clause_72, sX12_clause_74, sX12_clause_77, sX12_clause_80, sX12_clause_81, sX12_clause_82, sX12_clause_85, sX12_clause_86, sX12_clause_89, sX12_clause_90, sX12_clause_93, sX12_clause_94, sX12_clause_95, sX12_clause_98, sX12_clause_99, sX12_clause_102, sX12_clause_103, sX12_clause_106, sX12_clause_109, sX12_clause_112, sX12_clause_113, sX12_clause_114, sX12_clause_115, sX12_clause_118, sX12_clause_119, sX12_clause_120, sX12_clause_122, sX12_clause_125, sX12_clause_128, sX12_clause_129, sX12_clause_130, sX12_clause_133, sX12_clause_135, sX12_clause_138, sX12_clause_139, sX12_clause_142, sX12_clause_143, sX12_clause_146, sX12_clause_149, sX12_clause_150, sX12_clause_151, sX12_clause_154, sX12_clause_157, sX12_clause_158, sX12_clause_161, sX12_clause_162, sX12_clause_163, sX12_clause_164, sX12_clause_167, sX12_clause_168, sX12_clause_169, sX12_clause_172, up_s, up_k, up_i, clr_n, clr_i, clr_j, clr_r, catS_n, catS_i, catS_j, catS_r, Option.toList_some, Option.toList_none, List.cons_append, List.nil_append, List.singleton_append, true_and, and_true, ne_eq, not_false_eq_true, not_true_eq_false, reduceCtorEq, if_true, if_false, true_or, or_true, false_or, or_false, Nat.reduceLT, Nat.reduceEqDiff, Nat.reduceAdd, Nat.reduceLeDiff, Int.reduceEq, Int.reduceNe, Int.reduceLT, Int.reduceLE, Int.reduceAdd, Int.reduceNeg, Int.reduceSub, Int.reduceMul, hR_0_0, hR_0_1, hR_0_2, hR_0_3, hR_0_4, hR_0_5, hR_0_6, hR_0_7, hR_0_8, hR_0_9, hR_0_10, hR_0_11, hR_0_12, hR_0_13, hR_0_14, hR_0_15, hR_0_16, hR_0_17, hR_0_18, hR_0_19, hR_0_20, hR_0_21, hR_0_22, hR_0_23, hR_0_24, hR_0_25, hR_0_26, hR_0_27, hR_0_28, hR_0_29, hR_0_30, hR_0_31, hR_0_32, hR_0_33, hR_0_34, hR_0_35, hR_0_36, hR_0_37, hR_0_38, hR_0_39, hR_0_40, hR_0_41, hR_0_42, hR_0_43, hR_0_44, hR_0_45, hR_0_46, hR_0_47, hR_0_48, hR_0_49, hR_0_50, hR_0_51, hR_0_52, hR_0_53, hR_0_54, hR_0_55, hR_0_56, hR_0_57, hR_0_58, hR_0_59, hR_0_60, hR_0_61, hR_0_62, hR_0_63, hR_0_64, hR_0_65, hR_0_66, hR_0_67, hR_0_68, hR_0_69, hR_0_70, hR_0_71, hR_0_72, hR_0_73, hR_0_74, hR_0_75, hR_0_76, hR_0_77, hR_0_78, hR_0_79, hR_0_80, hR_0_81, hR_0_82, hR_0_83, hR_0_84, hR_0_85, hR_0_86, hR_0_87, hR_0_88, hR_0_89, hR_0_90, hR_1_0, hR_2_0, hR_3_0, hR_4_0, hR_5_0, hR_6_0, hR_7_0, hR_8_0, hR_9_0, hR_10_0, hR_11_0, hR_12_0, hR_13_0, hR_14_0, hR_15_0, hR_16_0, hR_17_0, hR_18_0, hR_19_0, hR_20_0, hR_21_0, hR_22_0, hR_23_0, hR_24_0, hR_25_0, hR_26_0, hR_27_0, hf, e1, e2, c1, c2]
      refine hQ _ ((FrX.rf.up 17 (by omega)).up 14 (by omega)) (by simp only [up_s, up_k, up_i, clr_n, clr_i, clr_j, clr_r, catS_n, catS_i, catS_j, catS_r, Option.toList_some, Option.toList_none, List.cons_append, List.nil_append, List.singleton_append, true_and, and_true, ne_eq, not_false_eq_true, not_true_eq_false, reduceCtorEq, if_true, if_false, true_or, or_true, false_or, or_false, Nat.reduceLT, Nat.reduceEqDiff, Nat.reduceAdd, Nat.reduceLeDiff, Int.reduceEq, Int.reduceNe, Int.reduceLT, Int.reduceLE, Int.reduceAdd, Int.reduceNeg, Int.reduceSub, Int.reduceMul]) (by simp only [up_s, up_k, up_i, clr_n, clr_i, clr_j, clr_r, catS_n, catS_i, catS_j, catS_r, Option.toList_some, Option.toList_none, List.cons_append, List.nil_append, List.singleton_append, true_and, and_true, ne_eq, not_false_eq_true, not_true_eq_false, reduceCtorEq, if_true, if_false, true_or, or_true, false_or, or_false, Nat.reduceLT, Nat.reduceEqDiff, Nat.reduceAdd, Nat.reduceLeDiff, Int.reduceEq, Int.reduceNe, Int.reduceLT, Int.reduceLE, Int.reduceAdd, Int.reduceNeg, Int.reduceSub, Int.reduceMul]; exact hf) (by simp only [up_s, up_k, up_i, clr_n, clr_i, clr_j, clr_r, catS_n, catS_i, catS_j, catS_r, Option.toList_some, Option.toList_none, List.cons_append, List.nil_append, List.singleton_append, true_and, and_true, ne_eq, not_false_eq_true, not_true_eq_false, reduceCtorEq, if_true, if_false, true_or, or_true, false_or, or_false, Nat.reduceLT, Nat.reduceEqDiff, Nat.reduceAdd, Nat.reduceLeDiff, Int.reduceEq, Int.reduceNe, Int.reduceLT, Int.reduceLE, Int.reduceAdd, Int.reduceNeg, Int.reduceSub, Int.reduceMul]) ?_
      rw [if_neg c2]; simp only [fdS]; rw [if_pos c1]; simp only [up_s, up_k, up_i, clr_n, clr_i, clr_j, clr_r, catS_n, catS_i, catS_j, catS_r, Option.toList_some, Option.toList_none, List.cons_append, List.nil_append, List.singleton_append, true_and, and_true, ne_eq, not_false_eq_true, not_true_eq_false, reduceCtorEq, if_true, if_false, true_or, or_true, false_or, or_false, Nat.reduceLT, Nat.reduceEqDiff, Nat.reduceAdd, Nat.reduceLeDiff, Int.reduceEq, Int.reduceNe, Int.reduceLT, Int.reduceLE, Int.reduceAdd, Int.reduceNeg, Int.reduceSub, Int.reduceMul]
  · simp only [sX12_clause_0, sX12_clause_1, sX12_clause_4, sX12_clause_5, sX12_clause_7, sX12_clause_8, sX12_clause_11, sX12_clause_14, sX12_clause_15, sX12_clause_18, sX12_clause_19, sX12_clause_20, sX12_clause_21, sX12_clause_21r, sX12_clause_22, sX12_clause_25, sX12_clause_26, sX12_clause_27, sX12_clause_30, sX12_clause_31, sX12_clause_33, sX12_clause_36, sX12_clause_39, sX12_clause_40, sX12_clause_41, sX12_clause_42, sX12_clause_43, sX12_clause_44, sX12_clause_45, sX12_clause_48, sX12_clause_50, sX12_clause_52, sX12_clause_54, sX12_clause_57, sX12_clause_59, sX12_clause_61, sX12_clause_64, sX12_clause_65, sX12_clause_66, sX12_clause_67, sX12_clause_70, sX12_clause_71, sX12_clause_72, sX12_clause_74, sX12_clause_77, sX12_clause_80, sX12_clause_81, sX12_clause_82, sX12_clause_85, sX12_clause_86, sX12_clause_89, sX12_clause_90, sX12_clause_93, sX12_clause_94, sX12_clause_95, sX12_clause_98, sX12_clause_99, sX12_clause_102, sX12_clause_103, sX12_clause_106, sX12_clause_109, sX12_clause_112, sX12_clause_113, sX12_clause_114, sX12_clause_115, sX12_clause_118, sX12_clause_119, sX12_clause_120, sX12_clause_122, sX12_clause_125, sX12_clause_128, sX12_clause_129, sX12_clause_130, sX12_clause_133, sX12_clause_135, sX12_clause_138, sX12_clause_139, sX12_clause_142, sX12_clause_143, sX12_clause_146, sX12_clause_149, sX12_clause_150, sX12_clause_151, sX12_clause_154, sX12_clause_157, sX12_clause_158, sX12_clause_161, sX12_clause_162, sX12_clause_163, sX12_clause_164, sX12_clause_167, sX12_clause_168, sX12_clause_169, sX12_clause_172, up_s, up_k, up_i, clr_n, clr_i, clr_j, clr_r, catS_n, catS_i, catS_j, catS_r, Option.toList_some, Option.toList_none, List.cons_append, List.nil_append, List.singleton_append, true_and, and_true, ne_eq, not_false_eq_true, not_true_eq_false, reduceCtorEq, if_true, if_false, true_or, or_true, false_or, or_false, Nat.reduceLT, Nat.reduceEqDiff, Nat.reduceAdd, Nat.reduceLeDiff, Int.reduceEq, Int.reduceNe, Int.reduceLT, Int.reduceLE, Int.reduceAdd, Int.reduceNeg, Int.reduceSub, Int.reduceMul, hR_0_0, hR_0_1, hR_0_2, hR_0_3, hR_0_4, hR_0_5, hR_0_6, hR_0_7, hR_0_8, hR_0_9, hR_0_10, hR_0_11, hR_0_12, hR_0_13, hR_0_14, hR_0_15, hR_0_16, hR_0_17, hR_0_18, hR_0_19, hR_0_20, hR_0_21, hR_0_22, hR_0_23, hR_0_24, hR_0_25, hR_0_26, hR_0_27, hR_0_28, hR_0_29, hR_0_30, hR_0_31, hR_0_32, hR_0_33, hR_0_34, hR_0_35, hR_0_36, hR_0_37, hR_0_38, hR_0_39, hR_0_40, hR_0_41, hR_0_42, hR_0_43, hR_0_44, hR_0_45, hR_0_46, hR_0_47, hR_0_48, hR_0_49, hR_0_50, hR_0_51, hR_0_52, hR_0_53, hR_0_54, hR_0_55, hR_0_56, hR_0_57, hR_0_58, hR_0_59, hR_0_60, hR_0_61, hR_0_62, hR_0_63, hR_0_64, hR_0_65, hR_0_66, hR_0_67, hR_0_68, hR_0_69, hR_0_70, hR_0_71, hR_0_72, hR_0_73, hR_0_74, hR_0_75, hR_0_76, hR_0_77, hR_0_78, hR_0_79, hR_0_80, hR_0_81, hR_0_82, hR_0_83, hR_0_84, hR_0_85, hR_0_86, hR_0_87, hR_0_88, hR_0_89, hR_0_90, hR_1_0, hR_2_0, hR_3_0, hR_4_0, hR_5_0, hR_6_0, hR_7_0, hR_8_0, hR_9_0, hR_10_0, hR_11_0, hR_12_0, hR_13_0, hR_14_0, hR_15_0, hR_16_0, hR_17_0, hR_18_0, hR_19_0, hR_20_0, hR_21_0, hR_22_0, hR_23_0, hR_24_0, hR_25_0, hR_26_0, hR_27_0, hf, e1, e2, c1]
    refine hQ σ FrX.rf rfl hf rfl ?_
    by_cases c2 : is = 0
    · rw [if_pos c2]; exact ⟨e2, e3⟩
    · rw [if_neg c2]; simp only [fdS]; rw [if_neg c1]; exact ⟨e2, e3⟩
end
