section
variable {d : Nat} {σ : Sto} {Q : Option AV → List Kd → Sto → Prop} {b : Int → Int} {n : Int}
/-- behind a condition: its sign and a sum -/
def guS (b : Int → Int) (n : Int) (w : List Int) (i : Int) : ((Option (List Int) × List Int) × Int) ⊕ Int := match paC b n 63 i with
  | .inr j => .inr j
  | .inl j => match suS b n 6 j with
    | .inr j1 => .inr j1
    | .inl (s, j1) => .inl ((some w, s), j1)
/-- a clause of a law: its condition, if it has one, its sum -/
def lcS (b : Int → Int) (n : Int) (i : Int) : ((Option (List Int) × List Int) × Int) ⊕ Int := match paC b n 121 i with
  | .inr j => .inr j
  | .inl j => match paC b n 58 j with
    | .inr j1 => .inr j1
    | .inl j1 => if at_ b n (sk b n j1) = 33 ∨ at_ b n (sk b n j1) = 40 then
        (match onS b n (onS b n (utS b n 6) opA) opO (sk b n j1) with
         | .inr j2 => .inr j2
         | .inl (w, j2) => guS b n w j2)
      else (match suS b n 6 (sk b n j1) with
        | .inr j2 => .inr j2
        | .inl (w, j2) => if rlS (at_ b n (sk b n j2)) = -1 then .inl ((none, w), sk b n j2) else (match reS b n (suS b n 6) (sk b n j2) with
          | .inr j3 => .inr j3
          | .inl (w1, j3) => match moS b n (utS b n 6) opA 160 (w ++ w1) j3 with
            | .inr j4 => .inr j4
            | .inl (w2, j4) => match moS b n (onS b n (utS b n 6) opA) opO 160 w2 j4 with
              | .inr j5 => .inr j5
              | .inl (w3, j5) => guS b n w3 j5))
/-- the steps of a clause that begins with the step of this number -/
def cdC (L : Int) (c : Option (List Int) × List Int) : List Int := match c with
  | (none, s) => s ++ [16]
  | (some w, s) => w ++ ([15, L + w.length + 3 + s.length] ++ s ++ [16])
theorem c_addBranch (h : 0 ≤ σ 10 1 ∧ σ 10 1 < 390) : Ex (d + 1) mX8_addBranch 0 [some (.inr (.inr (some 10)))] [] shC σ Q = Q (some (.inl (σ 10 1 + 1))) shC (adS (adS σ 15) 100) := by
  simp only [sX8_addBranch_0, sX8_addBranch_1, sX8_addBranch_3, sX8_addBranch_6, sX8_addBranch_7, sX8_addBranch_9, sX8_addBranch_12, sX8_addBranch_13, sX8_addBranch_16, sX8_addBranch_17, sX8_addBranch_18, up_s, up_k, up_i, clr_n, clr_i, clr_j, clr_r, catS_n, catS_i, catS_j, catS_r, Option.toList_some, Option.toList_none, List.cons_append, List.nil_append, List.singleton_append, true_and, and_true, ne_eq, not_false_eq_true, not_true_eq_false, reduceCtorEq, if_true, if_false, true_or, or_true, false_or, or_false, Nat.reduceLT, Nat.reduceEqDiff, Nat.reduceAdd, Nat.reduceLeDiff, Int.reduceEq, Int.reduceNe, Int.reduceLT, Int.reduceLE, Int.reduceAdd, Int.reduceNeg, Int.reduceSub, Int.reduceMul, hC_0_0, hC_0_1, hC_0_2, hC_0_3, hC_0_4, hC_0_5, hC_0_6, hC_0_7, hC_0_8, hC_0_9, hC_0_10, hC_0_11, hC_0_12, hC_0_13, hC_0_14, hC_0_15, hC_0_16, hC_1_0, hC_1_1, hC_1_2, hC_1_3, hC_1_4, hC_1_5, hC_2_0, hC_3_0, hC_3_1, hC_3_2, hC_3_3, hC_3_4, hC_3_5, hC_3_6, hC_3_7, hC_3_8, hC_3_9, hC_3_10, hC_3_11, hC_3_12, hC_4_0, hC_5_0, hC_6_0, hC_7_0, hC_8_0, hC_9_0, hC_9_1, hC_9_2, hC_10_0, hC_10_1, hC_10_2, hC_10_3, hC_10_4, hC_10_5, hC_10_6, hC_10_7, hC_10_8, hC_11_0, hC_12_0, hC_13_0, hC_14_0, hC_14_1, hC_14_2, hC_14_3, hC_14_4, hC_14_5, hC_14_6, hC_14_7, hC_14_8, hC_14_9, hC_14_10, hC_14_11, hC_14_12, hC_14_13, hC_14_14, hC_14_15, hC_14_16, hC_14_17, hC_14_18, hC_14_19, hC_14_20, hC_14_21, hC_14_22, hC_14_23, hC_15_0, hC_16_0, hC_17_0, hC_18_0, hC_18_1, hC_18_2, hC_18_3, hC_18_4, hC_19_0, hC_20_0, hC_20_1, hC_20_2, hC_20_3, hC_20_4, hC_20_5, hC_20_6, hC_20_7, hC_20_8, hC_21_0, hC_22_0, hC_23_0, hC_24_0, hC_24_1, hC_24_2, hC_24_3, hC_24_4, hC_24_5, hC_24_6, hC_24_7, hC_24_8, hC_25_0, hC_26_0, hC_27_0, hC_28_0, hC_28_1, hC_28_2, hC_28_3, hC_28_4, hC_28_5, hC_28_6, hC_28_7, hC_28_8, hC_29_0, hC_30_0, hC_31_0, hC_32_0, hC_32_1, hC_32_2, hC_32_3, hC_32_4, hC_32_5, hC_32_6, hC_32_7, hC_32_8, hC_33_0, hC_34_0, hC_35_0, hC_36_0, hC_36_1, hC_36_2, hC_36_3, hC_36_4, hC_36_5, hC_36_6, hC_36_7, hC_36_8, hC_37_0, hC_38_0, hC_39_0, hC_39_1, hC_39_2, hC_39_3, hC_39_4, hC_39_5, hC_39_6, hC_39_7, hC_39_8, hC_40_0, hC_41_0, hC_42_0, hC_43_0, hC_44_0, hC_45_0, hC_45_1, hC_45_2, hC_45_3, hC_45_4, hC_45_5, hC_46_0, hC_47_0, hC_47_1, hC_47_2, hC_47_3, hC_47_4, hC_47_5, hC_47_6, hC_47_7, hC_47_8, hC_47_9, hC_47_10, hC_47_11, hC_47_12, hC_47_13, hC_48_0, hC_49_0, hC_50_0, hC_51_0, hC_52_0, hC_52_1, hC_52_2, hC_52_3, hC_52_4, hC_52_5, hC_52_6, hC_52_7, hC_52_8, hC_52_9, hC_52_10, hC_52_11, hC_52_12, hC_52_13, hC_53_0, hC_54_0, hC_55_0, hC_56_0, hC_57_0, hC_58_0, hC_58_1, hC_58_2, hC_59_0, c_addS (σ := σ) (x := 15) (by omega), c_addS (σ := adS σ 15) (x := 100) (by rw [adS_0]; omega), adS_0]
  rw [show σ 10 1 + 1 + 1 - 1 = σ 10 1 + 1 by omega, w32_of ⟨by omega, by omega⟩]
theorem c_landHere {g : Int} (h : 0 ≤ g ∧ g < σ 10 1 ∧ σ 10 1 ≤ 400) : Ex d mX8_landHere 0 [some (.inr (.inr (some 10))), some (.inl g)] [] shC σ Q = Q none shC (up σ 11 g (σ 10 1)) := by
  obtain ⟨h0, h1, h2⟩ := h
  have a1 : ¬ g < 0 := by omega
  have a2 : ¬ σ 10 1 ≤ g := by omega
  have a3 : g < 400 := by omega
  simp only [sX8_landHere_0, sX8_landHere_1, sX8_landHere_4, sX8_landHere_5, sX8_landHere_6, sX8_landHere_9, sX8_landHere_12, sX8_landHere_13, sX8_landHere_16, sX8_landHere_17, sX8_landHere_18, sX8_landHere_21, sX8_landHere_22, up_s, up_k, up_i, clr_n, clr_i, clr_j, clr_r, catS_n, catS_i, catS_j, catS_r, Option.toList_some, Option.toList_none, List.cons_append, List.nil_append, List.singleton_append, true_and, and_true, ne_eq, not_false_eq_true, not_true_eq_false, reduceCtorEq, if_true, if_false, true_or, or_true, false_or, or_false, Nat.reduceLT, Nat.reduceEqDiff, Nat.reduceAdd, Nat.reduceLeDiff, Int.reduceEq, Int.reduceNe, Int.reduceLT, Int.reduceLE, Int.reduceAdd, Int.reduceNeg, Int.reduceSub, Int.reduceMul, hC_0_0, hC_0_1, hC_0_2, hC_0_3, hC_0_4, hC_0_5, hC_0_6, hC_0_7, hC_0_8, hC_0_9, hC_0_10, hC_0_11, hC_0_12, hC_0_13, hC_0_14, hC_0_15, hC_0_16, hC_1_0, hC_1_1, hC_1_2, hC_1_3, hC_1_4, hC_1_5, hC_2_0, hC_3_0, hC_3_1, hC_3_2, hC_3_3, hC_3_4, hC_3_5, hC_3_6, hC_3_7, hC_3_8, hC_3_9, hC_3_10, hC_3_11, hC_3_12, hC_4_0, hC_5_0, hC_6_0, hC_7_0, hC_8_0, hC_9_0, hC_9_1, hC_9_2, hC_10_0, hC_10_1, hC_10_2, hC_10_3, hC_10_4, hC_10_5, hC_10_6, hC_10_7, hC_10_8, hC_11_0, hC_12_0, hC_13_0, hC_14_0, hC_14_1, hC_14_2, hC_14_3, hC_14_4, hC_14_5, hC_14_6, hC_14_7, hC_14_8, hC_14_9, hC_14_10, hC_14_11, hC_14_12, hC_14_13, hC_14_14, hC_14_15, hC_14_16, hC_14_17, hC_14_18, hC_14_19, hC_14_20, hC_14_21, hC_14_22, hC_14_23, hC_15_0, hC_16_0, hC_17_0, hC_18_0, hC_18_1, hC_18_2, hC_18_3, hC_18_4, hC_19_0, hC_20_0, hC_20_1, hC_20_2, hC_20_3, hC_20_4, hC_20_5, hC_20_6, hC_20_7, hC_20_8, hC_21_0, hC_22_0, hC_23_0, hC_24_0, hC_24_1, hC_24_2, hC_24_3, hC_24_4, hC_24_5, hC_24_6, hC_24_7, hC_24_8, hC_25_0, hC_26_0, hC_27_0, hC_28_0, hC_28_1, hC_28_2, hC_28_3, hC_28_4, hC_28_5, hC_28_6, hC_28_7, hC_28_8, hC_29_0, hC_30_0, hC_31_0, hC_32_0, hC_32_1, hC_32_2, hC_32_3, hC_32_4, hC_32_5, hC_32_6, hC_32_7, hC_32_8, hC_33_0, hC_34_0, hC_35_0, hC_36_0, hC_36_1, hC_36_2, hC_36_3, hC_36_4, hC_36_5, hC_36_6, hC_36_7, hC_36_8, hC_37_0, hC_38_0, hC_39_0, hC_39_1, hC_39_2, hC_39_3, hC_39_4, hC_39_5, hC_39_6, hC_39_7, hC_39_8, hC_40_0, hC_41_0, hC_42_0, hC_43_0, hC_44_0, hC_45_0, hC_45_1, hC_45_2, hC_45_3, hC_45_4, hC_45_5, hC_46_0, hC_47_0, hC_47_1, hC_47_2, hC_47_3, hC_47_4, hC_47_5, hC_47_6, hC_47_7, hC_47_8, hC_47_9, hC_47_10, hC_47_11, hC_47_12, hC_47_13, hC_48_0, hC_49_0, hC_50_0, hC_51_0, hC_52_0, hC_52_1, hC_52_2, hC_52_3, hC_52_4, hC_52_5, hC_52_6, hC_52_7, hC_52_8, hC_52_9, hC_52_10, hC_52_11, hC_52_12, hC_52_13, hC_53_0, hC_54_0, hC_55_0, hC_56_0, hC_57_0, hC_58_0, hC_58_1, hC_58_2, hC_59_0, a1, a2, a3, h0]
theorem drS.land {a c : Sto} {s : List Int} {v : Int} (h : drS a c ([15, 100] ++ s)) : drS a (up c 11 (a 10 1 + 1) v) ([15, v] ++ s) ∨ v = 3 := by
  by_cases hv : v = 3
  · exact Or.inr hv
  · left
    obtain ⟨x1, x2, x3, x4⟩ := h
    refine ⟨by rw [up_k (by decide), x1]; simp, ?_, fun k hk => by rw [up_i (by omega)]; exact x3 k hk, fun k hk => ?_⟩
    · rw [up_k (by decide), x2]
      by_cases m : (3 : Int) ∈ s
      · rw [if_pos (by simp [m]), if_pos (by simp [m])]
      · rw [if_neg (by simp [m]), if_neg (by simp [m]; omega)]
    · by_cases e : k = 1
      · subst e
        rw [show a 10 1 + ((1 : Nat) : Int) = a 10 1 + 1 from rfl, up_s]
        rfl
      · rw [up_i (by omega), x4 k (by simpa using hk)]
        match k, e with
        | 0, _ => rfl
        | k + 2, _ => rfl
/-- a reader writes something -/
def neS (P : Ps) : Prop := ∀ i, match P i with
  | .inl (w, _) => 1 ≤ w.length
  | .inr _ => True
theorem ne_at {E : Option Ps} (hE : ∀ S, E = some S → neS S) : neS (atS b n E) := by
  intro i
  unfold atS
  by_cases c1 : at_ b n (sk b n i) = 91
  · rw [if_pos c1]
    cases E with
    | none => trivial
    | some S =>
      have := hE S rfl (sk b n i + 1)
      simp only
      generalize S (sk b n i + 1) = z at *
      cases z with
      | inr j => trivial
      | inl y =>
        obtain ⟨w, j⟩ := y
        simp only at this ⊢
        generalize paC b n 93 j = z at *
        cases z with
        | inr j1 => trivial
        | inl j1 => exact this
  · rw [if_neg c1]
    by_cases c2 : ltS (at_ b n (sk b n i)) = -1
    · rw [if_pos c2]
      by_cases c3 : (rdN b n 4 (sk b n i) 0).1 = sk b n i ∨ (48 ≤ at_ b n (rdN b n 4 (sk b n i) 0).1 ∧ at_ b n (rdN b n 4 (sk b n i) 0).1 ≤ 57)
      · rw [if_pos c3]; trivial
      · rw [if_neg c3]; exact Nat.le_refl _
    · rw [if_neg c2]; exact Nat.le_refl _
theorem ne_mo {A : Ps} {op : Int → Int} : ∀ (f : Nat) (w : List Int) (i : Int), match moS b n A op f w i with
    | .inl (w', _) => w.length ≤ w'.length
    | .inr _ => True := by
  intro f
  induction f with
  | zero => intro w i; exact Nat.le_refl _
  | succ f ih =>
    intro w i
    simp only [moS]
    split
    · rename_i h
      split at h
      · simp only [Sum.inl.injEq, Prod.mk.injEq] at h; rw [← h.1]; exact Nat.le_refl _
      · revert h
        generalize A (sk b n i + 1) = z
        cases z with
        | inr j => intro h; cases h
        | inl y =>
          obtain ⟨w1, j⟩ := y
          intro h
          simp only at h
          have := ih (w ++ w1 ++ [op (at_ b n (sk b n i))]) j
          rw [h] at this
          simp only [List.length_append] at this
          omega
    · trivial
theorem ne_on {A : Ps} {op : Int → Int} (hA : neS A) : neS (onS b n A op) := by
  intro i
  have h := hA i
  simp only [onS]
  generalize A i = z at *
  cases z with
  | inr j => trivial
  | inl y =>
    obtain ⟨w, j⟩ := y
    simp only at h ⊢
    have := ne_mo (b := b) (n := n) (A := A) (op := op) 160 w j
    generalize moS b n A op 160 w j = z at *
    cases z with
    | inr j => trivial
    | inl y => obtain ⟨w1, j1⟩ := y; simp only at this ⊢; omega
theorem ne_su : ∀ D, neS (suS b n D) := by
  intro D
  induction D with
  | zero => exact ne_on (ne_on (ne_at (fun S q => by cases q)))
  | succ D ih => exact ne_on (ne_on (ne_at (fun S q => by cases q; exact ih)))
theorem C_guarded {w : List Int} {m : Nat} (hm : 23 ≤ m) (hb : σ 2 = b) (hn : σ 1 1 = n) (hh : hdOK σ) (l0 : 0 ≤ σ 10 1) (l1 : σ 10 1 + 2 ≤ σ 1 2)
    (hQ : match guS b n w (σ 1 2) with
     | .inl ((_, s), j) => ∀ σ', FrW σ σ' → σ' 1 2 = j → drS σ σ' ([15, σ 10 1 + 3 + s.length] ++ s ++ [16]) → σ' 10 1 ≤ σ' 1 2 → σ' 1 2 ≤ n → σ 1 2 < σ' 1 2 → Q (some (.inl 1)) shC σ'
     | .inr j => ∀ σ', FrW σ σ' → σ' 1 3 = j → Q (some (.inl 0)) shC σ') :
    Ex m mX2_guarded 0 [some (.inr (.inr (some 9))), some (.inr (.inr (some 1))), none] [] shC σ Q := by
  have hp := paC_ok (b := b) (n := n) (c := 63) (i := σ 1 2) (by omega) (by rw [← hn]; exact hh.2.1)
  obtain ⟨g0, g1, g2⟩ := id hh
  obtain ⟨d, rfl⟩ : ∃ d, m = d + 3 := ⟨m - 3, by omega⟩
  unfold guS at hQ
  simp only [sX2_guarded_0, sX2_guarded_1, sX2_guarded_3, sX2_guarded_6, sX2_guarded_9, sX2_guarded_10, sX2_guarded_11, sX2_guarded_12, sX2_guarded_15, sX2_guarded_18, sX2_guarded_19, sX2_guarded_20, sX2_guarded_21, sX2_guarded_22, sX2_guarded_25, sX2_guarded_28, sX2_guarded_29, sX2_guarded_30, sX2_guarded_31, sX2_guarded_34, sX2_guarded_36, sX2_guarded_39, sX2_guarded_40, sX2_guarded_43, sX2_guarded_44, sX2_guarded_47, sX2_guarded_48, up_s, up_k, up_i, clr_n, clr_i, clr_j, clr_r, catS_n, catS_i, catS_j, catS_r, Option.toList_some, Option.toList_none, List.cons_append, List.nil_append, List.singleton_append, true_and, and_true, ne_eq, not_false_eq_true, not_true_eq_false, reduceCtorEq, if_true, if_false, true_or, or_true, false_or, or_false, Nat.reduceLT, Nat.reduceEqDiff, Nat.reduceAdd, Nat.reduceLeDiff, Int.reduceEq, Int.reduceNe, Int.reduceLT, Int.reduceLE, Int.reduceAdd, Int.reduceNeg, Int.reduceSub, Int.reduceMul, hC_0_0, hC_0_1, hC_0_2, hC_0_3, hC_0_4, hC_0_5, hC_0_6, hC_0_7, hC_0_8, hC_0_9, hC_0_10, hC_0_11, hC_0_12, hC_0_13, hC_0_14, hC_0_15, hC_0_16, hC_1_0, hC_1_1, hC_1_2, hC_1_3, hC_1_4, hC_1_5, hC_2_0, hC_3_0, hC_3_1, hC_3_2, hC_3_3, hC_3_4, hC_3_5, hC_3_6, hC_3_7, hC_3_8, hC_3_9, hC_3_10, hC_3_11, hC_3_12, hC_4_0, hC_5_0, hC_6_0, hC_7_0, hC_8_0, hC_9_0, hC_9_1, hC_9_2, hC_10_0, hC_10_1, hC_10_2, hC_10_3, hC_10_4, hC_10_5, hC_10_6, hC_10_7, hC_10_8, hC_11_0, hC_12_0, hC_13_0, hC_14_0, hC_14_1, hC_14_2, hC_14_3, hC_14_4, hC_14_5, hC_14_6, hC_14_7, hC_14_8, hC_14_9, hC_14_10, hC_14_11, hC_14_12, hC_14_13, hC_14_14, hC_14_15, hC_14_16, hC_14_17, hC_14_18, hC_14_19, hC_14_20, hC_14_21, hC_14_22, hC_14_23, hC_15_0, hC_16_0, hC_17_0, hC_18_0, hC_18_1, hC_18_2, hC_18_3, hC_18_4, hC_19_0, hC_20_0, hC_20_1, hC_20_2, hC_20_3, hC_20_4, hC_20_5, hC_20_6, hC_20_7, hC_20_8, hC_21_0, hC_22_0, hC_23_0, hC_24_0, hC_24_1, hC_24_2, hC_24_3, hC_24_4, hC_24_5, hC_24_6, hC_24_7, hC_24_8, hC_25_0, hC_26_0, hC_27_0, hC_28_0, hC_28_1, hC_28_2, hC_28_3, hC_28_4, hC_28_5, hC_28_6, hC_28_7, hC_28_8, hC_29_0, hC_30_0, hC_31_0, hC_32_0, hC_32_1, hC_32_2, hC_32_3, hC_32_4, hC_32_5, hC_32_6, hC_32_7, hC_32_8, hC_33_0, hC_34_0, hC_35_0, hC_36_0, hC_36_1, hC_36_2, hC_36_3, hC_36_4, hC_36_5, hC_36_6, hC_36_7, hC_36_8, hC_37_0, hC_38_0, hC_39_0, hC_39_1, hC_39_2, hC_39_3, hC_39_4, hC_39_5, hC_39_6, hC_39_7, hC_39_8, hC_40_0, hC_41_0, hC_42_0, hC_43_0, hC_44_0, hC_45_0, hC_45_1, hC_45_2, hC_45_3, hC_45_4, hC_45_5, hC_46_0, hC_47_0, hC_47_1, hC_47_2, hC_47_3, hC_47_4, hC_47_5, hC_47_6, hC_47_7, hC_47_8, hC_47_9, hC_47_10, hC_47_11, hC_47_12, hC_47_13, hC_48_0, hC_49_0, hC_50_0, hC_51_0, hC_52_0, hC_52_1, hC_52_2, hC_52_3, hC_52_4, hC_52_5, hC_52_6, hC_52_7, hC_52_8, hC_52_9, hC_52_10, hC_52_11, hC_52_12, hC_52_13, hC_53_0, hC_54_0, hC_55_0, hC_56_0, hC_57_0, hC_58_0, hC_58_1, hC_58_2, hC_59_0, c_pass hh (show (63 : Int) ≠ -1 by decide), hb, hn]
  unfold paC at hp hQ
  by_cases c : at_ b n (sk b n (σ 1 2)) = 63
  · rw [if_pos c] at hp hQ ⊢
    simp only at hp hQ
    generalize sk b n (σ 1 2) + 1 = i at *
    have hs := gd_su (b := b) (n := n) 6 i (by omega) (by omega)
    have hne := ne_su (b := b) (n := n) 6 i
    have z0 : up σ 1 2 i 10 1 = σ 10 1 := by simp only [up_s, up_k, up_i, clr_n, clr_i, clr_j, clr_r, catS_n, catS_i, catS_j, catS_r, Option.toList_some, Option.toList_none, List.cons_append, List.nil_append, List.singleton_append, true_and, and_true, ne_eq, not_false_eq_true, not_true_eq_false, reduceCtorEq, if_true, if_false, true_or, or_true, false_or, or_false, Nat.reduceLT, Nat.reduceEqDiff, Nat.reduceAdd, Nat.reduceLeDiff, Int.reduceEq, Int.reduceNe, Int.reduceLT, Int.reduceLE, Int.reduceAdd, Int.reduceNeg, Int.reduceSub, Int.reduceMul]
    simp only [sX2_guarded_0, sX2_guarded_1, sX2_guarded_3, sX2_guarded_6, sX2_guarded_9, sX2_guarded_10, sX2_guarded_11, sX2_guarded_12, sX2_guarded_15, sX2_guarded_18, sX2_guarded_19, sX2_guarded_20, sX2_guarded_21, sX2_guarded_22, sX2_guarded_25, sX2_guarded_28, sX2_guarded_29, sX2_guarded_30, sX2_guarded_31, sX2_guarded_34, sX2_guarded_36, sX2_guarded_39, sX2_guarded_40, sX2_guarded_43, sX2_guarded_44, sX2_guarded_47, sX2_guarded_48, up_s, up_k, up_i, clr_n, clr_i, clr_j, clr_r, catS_n, catS_i, catS_j, catS_r, Option.toList_some, Option.toList_none, List.cons_append, List.nil_append, List.singleton_append, true_and, and_true, ne_eq, not_false_eq_true, not_true_eq_false, reduceCtorEq, if_true, if_false, true_or, or_true, false_or, or_false, Nat.reduceLT, Nat.reduceEqDiff, Nat.reduceAdd, Nat.reduceLeDiff, Int.reduceEq, Int.reduceNe, Int.reduceLT, Int.reduceLE, Int.reduceAdd, Int.reduceNeg, Int.reduceSub, Int.reduceMul, hC_0_0, hC_0_1, hC_0_2, hC_0_3, hC_0_4, hC_0_5, hC_0_6, hC_0_7, hC_0_8, hC_0_9, hC_0_10, hC_0_11, hC_0_12, hC_0_13, hC_0_14, hC_0_15, hC_0_16, hC_1_0, hC_1_1, hC_1_2, hC_1_3, hC_1_4, hC_1_5, hC_2_0, hC_3_0, hC_3_1, hC_3_2, hC_3_3, hC_3_4, hC_3_5, hC_3_6, hC_3_7, hC_3_8, hC_3_9, hC_3_10, hC_3_11, hC_3_12, hC_4_0, hC_5_0, hC_6_0, hC_7_0, hC_8_0, hC_9_0, hC_9_1, hC_9_2, hC_10_0, hC_10_1, hC_10_2, hC_10_3, hC_10_4, hC_10_5, hC_10_6, hC_10_7, hC_10_8, hC_11_0, hC_12_0, hC_13_0, hC_14_0, hC_14_1, hC_14_2, hC_14_3, hC_14_4, hC_14_5, hC_14_6, hC_14_7, hC_14_8, hC_14_9, hC_14_10, hC_14_11, hC_14_12, hC_14_13, hC_14_14, hC_14_15, hC_14_16, hC_14_17, hC_14_18, hC_14_19, hC_14_20, hC_14_21, hC_14_22, hC_14_23, hC_15_0, hC_16_0, hC_17_0, hC_18_0, hC_18_1, hC_18_2, hC_18_3, hC_18_4, hC_19_0, hC_20_0, hC_20_1, hC_20_2, hC_20_3, hC_20_4, hC_20_5, hC_20_6, hC_20_7, hC_20_8, hC_21_0, hC_22_0, hC_23_0, hC_24_0, hC_24_1, hC_24_2, hC_24_3, hC_24_4, hC_24_5, hC_24_6, hC_24_7, hC_24_8, hC_25_0, hC_26_0, hC_27_0, hC_28_0, hC_28_1, hC_28_2, hC_28_3, hC_28_4, hC_28_5, hC_28_6, hC_28_7, hC_28_8, hC_29_0, hC_30_0, hC_31_0, hC_32_0, hC_32_1, hC_32_2, hC_32_3, hC_32_4, hC_32_5, hC_32_6, hC_32_7, hC_32_8, hC_33_0, hC_34_0, hC_35_0, hC_36_0, hC_36_1, hC_36_2, hC_36_3, hC_36_4, hC_36_5, hC_36_6, hC_36_7, hC_36_8, hC_37_0, hC_38_0, hC_39_0, hC_39_1, hC_39_2, hC_39_3, hC_39_4, hC_39_5, hC_39_6, hC_39_7, hC_39_8, hC_40_0, hC_41_0, hC_42_0, hC_43_0, hC_44_0, hC_45_0, hC_45_1, hC_45_2, hC_45_3, hC_45_4, hC_45_5, hC_46_0, hC_47_0, hC_47_1, hC_47_2, hC_47_3, hC_47_4, hC_47_5, hC_47_6, hC_47_7, hC_47_8, hC_47_9, hC_47_10, hC_47_11, hC_47_12, hC_47_13, hC_48_0, hC_49_0, hC_50_0, hC_51_0, hC_52_0, hC_52_1, hC_52_2, hC_52_3, hC_52_4, hC_52_5, hC_52_6, hC_52_7, hC_52_8, hC_52_9, hC_52_10, hC_52_11, hC_52_12, hC_52_13, hC_53_0, hC_54_0, hC_55_0, hC_56_0, hC_57_0, hC_58_0, hC_58_1, hC_58_2, hC_59_0, c_addBranch (σ := up σ 1 2 i) (by rw [z0]; omega)]
    have F1 : FrW σ (adS (adS (up σ 1 2 i) 15) 100) := ((FrW.rf.up 1 2 (by omega)).tr adS_fr).tr adS_fr
    have d1 : drS σ (adS (adS (up σ 1 2 i) 15) 100) ([15] ++ [100]) := (adS_dr.tr adS_dr).mv'
    have p1 : adS (adS (up σ 1 2 i) 15) 100 1 2 = i := by rw [adS_1, adS_1]; simp only [up_s, up_k, up_i, clr_n, clr_i, clr_j, clr_r, catS_n, catS_i, catS_j, catS_r, Option.toList_some, Option.toList_none, List.cons_append, List.nil_append, List.singleton_append, true_and, and_true, ne_eq, not_false_eq_true, not_true_eq_false, reduceCtorEq, if_true, if_false, true_or, or_true, false_or, or_false, Nat.reduceLT, Nat.reduceEqDiff, Nat.reduceAdd, Nat.reduceLeDiff, Int.reduceEq, Int.reduceNe, Int.reduceLT, Int.reduceLE, Int.reduceAdd, Int.reduceNeg, Int.reduceSub, Int.reduceMul]
    have q1 : adS (adS (up σ 1 2 i) 15) 100 10 1 = σ 10 1 + 2 := by rw [adS_0, adS_0, z0]; omega
    generalize adS (adS (up σ 1 2 i) 15) 100 = τ at *
    have fb := F1.b
    rw [hb, hn] at fb
    have e := C_sumsG (b := b) (n := n) (D := 6) (by omega) (m := d + 2) (by omega) τ
    rw [show (6 : Int) - ((6 : Nat) : Int) = 0 from rfl] at e
    refine e _ fb.1 fb.2 ⟨by omega, by rw [fb.2]; omega, by rw [fb.2]; omega⟩ (by omega) (by omega) ?_
    rw [p1]
    generalize suS b n 6 i = z at *
    cases z with
    | inr j =>
      intro σ' f1 f2
      simp only [sX2_guarded_0, sX2_guarded_1, sX2_guarded_3, sX2_guarded_6, sX2_guarded_9, sX2_guarded_10, sX2_guarded_11, sX2_guarded_12, sX2_guarded_15, sX2_guarded_18, sX2_guarded_19, sX2_guarded_20, sX2_guarded_21, sX2_guarded_22, sX2_guarded_25, sX2_guarded_28, sX2_guarded_29, sX2_guarded_30, sX2_guarded_31, sX2_guarded_34, sX2_guarded_36, sX2_guarded_39, sX2_guarded_40, sX2_guarded_43, sX2_guarded_44, sX2_guarded_47, sX2_guarded_48, up_s, up_k, up_i, clr_n, clr_i, clr_j, clr_r, catS_n, catS_i, catS_j, catS_r, Option.toList_some, Option.toList_none, List.cons_append, List.nil_append, List.singleton_append, true_and, and_true, ne_eq, not_false_eq_true, not_true_eq_false, reduceCtorEq, if_true, if_false, true_or, or_true, false_or, or_false, Nat.reduceLT, Nat.reduceEqDiff, Nat.reduceAdd, Nat.reduceLeDiff, Int.reduceEq, Int.reduceNe, Int.reduceLT, Int.reduceLE, Int.reduceAdd, Int.reduceNeg, Int.reduceSub, Int.reduceMul, hC_0_0, hC_0_1, hC_0_2, hC_0_3, hC_0_4, hC_0_5, hC_0_6, hC_0_7, hC_0_8, hC_0_9, hC_0_10, hC_0_11, hC_0_12, hC_0_13, hC_0_14, hC_0_15, hC_0_16, hC_1_0, hC_1_1, hC_1_2, hC_1_3, hC_1_4, hC_1_5, hC_2_0, hC_3_0, hC_3_1, hC_3_2, hC_3_3, hC_3_4, hC_3_5, hC_3_6, hC_3_7, hC_3_8, hC_3_9, hC_3_10, hC_3_11, hC_3_12, hC_4_0, hC_5_0, hC_6_0, hC_7_0, hC_8_0, hC_9_0, hC_9_1, hC_9_2, hC_10_0, hC_10_1, hC_10_2, hC_10_3, hC_10_4, hC_10_5, hC_10_6, hC_10_7, hC_10_8, hC_11_0, hC_12_0, hC_13_0, hC_14_0, hC_14_1, hC_14_2, hC_14_3, hC_14_4, hC_14_5, hC_14_6, hC_14_7, hC_14_8, hC_14_9, hC_14_10, hC_14_11, hC_14_12, hC_14_13, hC_14_14, hC_14_15, hC_14_16, hC_14_17, hC_14_18, hC_14_19, hC_14_20, hC_14_21, hC_14_22, hC_14_23, hC_15_0, hC_16_0, hC_17_0, hC_18_0, hC_18_1, hC_18_2, hC_18_3, hC_18_4, hC_19_0, hC_20_0, hC_20_1, hC_20_2, hC_20_3, hC_20_4, hC_20_5, hC_20_6, hC_20_7, hC_20_8, hC_21_0, hC_22_0, hC_23_0, hC_24_0, hC_24_1, hC_24_2, hC_24_3, hC_24_4, hC_24_5, hC_24_6, hC_24_7, hC_24_8, hC_25_0, hC_26_0, hC_27_0, hC_28_0, hC_28_1, hC_28_2, hC_28_3, hC_28_4, hC_28_5, hC_28_6, hC_28_7, hC_28_8, hC_29_0, hC_30_0, hC_31_0, hC_32_0, hC_32_1, hC_32_2, hC_32_3, hC_32_4, hC_32_5, hC_32_6, hC_32_7, hC_32_8, hC_33_0, hC_34_0, hC_35_0, hC_36_0, hC_36_1, hC_36_2, hC_36_3, hC_36_4, hC_36_5, hC_36_6, hC_36_7, hC_36_8, hC_37_0, hC_38_0, hC_39_0, hC_39_1, hC_39_2, hC_39_3, hC_39_4, hC_39_5, hC_39_6, hC_39_7, hC_39_8, hC_40_0, hC_41_0, hC_42_0, hC_43_0, hC_44_0, hC_45_0, hC_45_1, hC_45_2, hC_45_3, hC_45_4, hC_45_5, hC_46_0, hC_47_0, hC_47_1, hC_47_2, hC_47_3, hC_47_4, hC_47_5, hC_47_6, hC_47_7, hC_47_8, hC_47_9, hC_47_10, hC_47_11, hC_47_12, hC_47_13, hC_48_0, hC_49_0, hC_50_0, hC_51_0, hC_52_0, hC_52_1, hC_52_2, hC_52_3, hC_52_4, hC_52_5, hC_52_6, hC_52_7, hC_52_8, hC_52_9, hC_52_10, hC_52_11, hC_52_12, hC_52_13, hC_53_0, hC_54_0, hC_55_0, hC_56_0, hC_57_0, hC_58_0, hC_58_1, hC_58_2, hC_59_0]
      exact hQ σ' (F1.tr f1) f2
    | inl y =>
      obtain ⟨s, j⟩ := y
      simp only at hQ hs hne
      intro σ' f1 f2 f3
      have f5 := f3.len
      have d2 := (d1.tr f3).tr (adS_dr (σ := σ') (x := 16))
      have b1 := (adS_0 (σ := σ') (x := 16))
      simp only [sX2_guarded_0, sX2_guarded_1, sX2_guarded_3, sX2_guarded_6, sX2_guarded_9, sX2_guarded_10, sX2_guarded_11, sX2_guarded_12, sX2_guarded_15, sX2_guarded_18, sX2_guarded_19, sX2_guarded_20, sX2_guarded_21, sX2_guarded_22, sX2_guarded_25, sX2_guarded_28, sX2_guarded_29, sX2_guarded_30, sX2_guarded_31, sX2_guarded_34, sX2_guarded_36, sX2_guarded_39, sX2_guarded_40, sX2_guarded_43, sX2_guarded_44, sX2_guarded_47, sX2_guarded_48, up_s, up_k, up_i, clr_n, clr_i, clr_j, clr_r, catS_n, catS_i, catS_j, catS_r, Option.toList_some, Option.toList_none, List.cons_append, List.nil_append, List.singleton_append, true_and, and_true, ne_eq, not_false_eq_true, not_true_eq_false, reduceCtorEq, if_true, if_false, true_or, or_true, false_or, or_false, Nat.reduceLT, Nat.reduceEqDiff, Nat.reduceAdd, Nat.reduceLeDiff, Int.reduceEq, Int.reduceNe, Int.reduceLT, Int.reduceLE, Int.reduceAdd, Int.reduceNeg, Int.reduceSub, Int.reduceMul, hC_0_0, hC_0_1, hC_0_2, hC_0_3, hC_0_4, hC_0_5, hC_0_6, hC_0_7, hC_0_8, hC_0_9, hC_0_10, hC_0_11, hC_0_12, hC_0_13, hC_0_14, hC_0_15, hC_0_16, hC_1_0, hC_1_1, hC_1_2, hC_1_3, hC_1_4, hC_1_5, hC_2_0, hC_3_0, hC_3_1, hC_3_2, hC_3_3, hC_3_4, hC_3_5, hC_3_6, hC_3_7, hC_3_8, hC_3_9, hC_3_10, hC_3_11, hC_3_12, hC_4_0, hC_5_0, hC_6_0, hC_7_0, hC_8_0, hC_9_0, hC_9_1, hC_9_2, hC_10_0, hC_10_1, hC_10_2, hC_10_3, hC_10_4, hC_10_5, hC_10_6, hC_10_7, hC_10_8, hC_11_0, hC_12_0, hC_13_0, hC_14_0, hC_14_1, hC_14_2, hC_14_3, hC_14_4, hC_14_5, hC_14_6, hC_14_7, hC_14_8, hC_14_9, hC_14_10, hC_14_11, hC_14_12, hC_14_13, hC_14_14, hC_14_15, hC_14_16, hC_14_17, hC_14_18, hC_14_19, hC_14_20, hC_14_21, hC_14_22, hC_14_23, hC_15_0, hC_16_0, hC_17_0, hC_18_0, hC_18_1, hC_18_2, hC_18_3, hC_18_4, hC_19_0, hC_20_0, hC_20_1, hC_20_2, hC_20_3, hC_20_4, hC_20_5, hC_20_6, hC_20_7, hC_20_8, hC_21_0, hC_22_0, hC_23_0, hC_24_0, hC_24_1, hC_24_2, hC_24_3, hC_24_4, hC_24_5, hC_24_6, hC_24_7, hC_24_8, hC_25_0, hC_26_0, hC_27_0, hC_28_0, hC_28_1, hC_28_2, hC_28_3, hC_28_4, hC_28_5, hC_28_6, hC_28_7, hC_28_8, hC_29_0, hC_30_0, hC_31_0, hC_32_0, hC_32_1, hC_32_2, hC_32_3, hC_32_4, hC_32_5, hC_32_6, hC_32_7, hC_32_8, hC_33_0, hC_34_0, hC_35_0, hC_36_0, hC_36_1, hC_36_2, hC_36_3, hC_36_4, hC_36_5, hC_36_6, hC_36_7, hC_36_8, hC_37_0, hC_38_0, hC_39_0, hC_39_1, hC_39_2, hC_39_3, hC_39_4, hC_39_5, hC_39_6, hC_39_7, hC_39_8, hC_40_0, hC_41_0, hC_42_0, hC_43_0, hC_44_0, hC_45_0, hC_45_1, hC_45_2, hC_45_3, hC_45_4, hC_45_5, hC_46_0, hC_47_0, hC_47_1, hC_47_2, hC_47_3, hC_47_4, hC_47_5, hC_47_6, hC_47_7, hC_47_8, hC_47_9, hC_47_10, hC_47_11, hC_47_12, hC_47_13, hC_48_0, hC_49_0, hC_50_0, hC_51_0, hC_52_0, hC_52_1, hC_52_2, hC_52_3, hC_52_4, hC_52_5, hC_52_6, hC_52_7, hC_52_8, hC_52_9, hC_52_10, hC_52_11, hC_52_12, hC_52_13, hC_53_0, hC_54_0, hC_55_0, hC_56_0, hC_57_0, hC_58_0, hC_58_1, hC_58_2, hC_59_0, c_addS (σ := σ') (x := 16) (by omega), c_landHere (σ := adS σ' 16) (g := σ 10 1 + 1) (by rw [b1]; omega)]
      rw [List.append_assoc] at d2
      have d3 := (drS.land (v := adS σ' 16 10 1) d2).resolve_right (by rw [b1]; omega)
      rw [b1, f5, q1, show σ 10 1 + 2 + (s.length : Int) + 1 = σ 10 1 + 3 + s.length by omega, ← List.append_assoc] at d3
      rw [b1, f5, q1, show σ 10 1 + 2 + (s.length : Int) + 1 = σ 10 1 + 3 + s.length by omega]
      have e1 : up (adS σ' 16) 11 (σ 10 1 + 1) (σ 10 1 + 3 + s.length) 1 2 = j := by rw [up_k (by decide), adS_1]; exact f2
      refine hQ _ (((F1.tr f1).tr adS_fr).up 11 _ (by omega)) e1 d3 ?_ (by rw [e1]; omega) (by rw [e1]; omega)
      rw [e1, up_k (by decide), b1]; omega
  · rw [if_neg c] at hp hQ ⊢
    exact hQ _ ((FrW.rf.up 1 2 (by omega)).up 1 3 (by omega)) (by simp only [up_s, up_k, up_i, clr_n, clr_i, clr_j, clr_r, catS_n, catS_i, catS_j, catS_r, Option.toList_some, Option.toList_none, List.cons_append, List.nil_append, List.singleton_append, true_and, and_true, ne_eq, not_false_eq_true, not_true_eq_false, reduceCtorEq, if_true, if_false, true_or, or_true, false_or, or_false, Nat.reduceLT, Nat.reduceEqDiff, Nat.reduceAdd, Nat.reduceLeDiff, Int.reduceEq, Int.reduceNe, Int.reduceLT, Int.reduceLE, Int.reduceAdd, Int.reduceNeg, Int.reduceSub, Int.reduceMul])
end
