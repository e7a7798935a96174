-- contracts of the JDK's own methods, and numbers
def bz (p : Prop) [Decidable p] : Int := if p then 1 else 0
theorem bz_01 (p : Prop) [Decidable p] : bz p = 0 ∨ bz p = 1 := by unfold bz; split <;> simp
theorem bz_t {p : Prop} [Decidable p] (h : p) : bz p = 1 := if_pos h
theorem bz_f {p : Prop} [Decidable p] (h : ¬ p) : bz p = 0 := if_neg h
theorem bz_eq0 (p : Prop) [Decidable p] : (bz p = 0) = ¬ p := by unfold bz; split <;> simp_all
theorem bz_eq1 (p : Prop) [Decidable p] : (bz p = 1) = p := by unfold bz; split <;> simp_all
theorem bz_ne0 (p : Prop) [Decidable p] : (¬ bz p = 0) = p := by unfold bz; split <;> simp_all
theorem bz_iff {p q : Prop} [Decidable p] [Decidable q] (h : p ↔ q) : bz p = bz q := by unfold bz; simp [h]
def z32 (n : Int) : Prop := -2147483648 ≤ n ∧ n ≤ 2147483647
theorem of32' {n : Int} (h : z32 n) : (Int32.ofInt n).toInt = n := Int32.toInt_ofInt_of_le (by have := h.1; omega) (by have := h.2; omega)
theorem w32_of {n : Int} (h : z32 n) : w32 n = n := w32_id h.1 (by have := h.2; omega)
theorem zdiv_eq {a b : Int} (ha : z32 a) (hb : z32 b) (hb0 : 0 < b) : zdiv a b = a.tdiv b := by
  unfold zdiv
  rw [Int32.toInt_div, of32' ha, of32' hb]
  obtain ⟨h1, h2⟩ := ha
  rw [Int.bmod_eq_of_le]
  · rcases Int.le_total 0 a with h | h
    · have := Int.tdiv_nonneg h (Int.le_of_lt hb0); omega
    · have h3 : -a.tdiv b ≤ -a := by
        rw [← Int.neg_tdiv]
        rw [Int.tdiv_eq_ediv_of_nonneg (by omega)]
        exact Int.ediv_le_self _ (by omega)
      omega
  · rcases Int.le_total 0 a with h | h
    · rw [Int.tdiv_eq_ediv_of_nonneg h]
      have := Int.ediv_le_self b h
      omega
    · have h3 : 0 ≤ (-a).tdiv b := Int.tdiv_nonneg (by omega) (by omega)
      rw [Int.neg_tdiv] at h3
      omega
theorem emod_le' {a b : Int} (h : 0 ≤ a) (hb0 : 0 < b) : a % b ≤ a := by
  have h7 := Int.mul_ediv_add_emod a b
  have h8 := Int.mul_nonneg (Int.le_of_lt hb0) (Int.ediv_nonneg h (Int.le_of_lt hb0))
  omega
theorem zrem_eq {a b : Int} (ha : z32 a) (hb : z32 b) (hb0 : 0 < b) : zrem a b = a.tmod b := by
  have h1 := zdiv_eq ha hb hb0
  unfold zdiv at h1
  unfold zrem
  rw [Int32.toInt_sub, Int32.toInt_mul, h1, of32' ha, of32' hb]
  have e : a.tdiv b * b = a - a.tmod b := by have := Int.mul_tdiv_add_tmod a b; rw [Int.mul_comm]; omega
  have h2 := tmod_bounds (a := a) hb0
  obtain ⟨g1, g2⟩ := ha
  obtain ⟨g3, g4⟩ := hb
  have h3 : -2147483648 ≤ a - a.tmod b ∧ a - a.tmod b ≤ 2147483647 := by
    rcases Int.le_total 0 a with h | h
    · rw [Int.tmod_eq_emod_of_nonneg h]
      have h4 := Int.emod_nonneg a (by omega : b ≠ 0)
      have h5 : a % b ≤ a := emod_le' h hb0
      omega
    · have h4 : a.tmod b = -((-a).tmod b) := by rw [Int.neg_tmod]; omega
      rw [Int.tmod_eq_emod_of_nonneg (by omega : 0 ≤ -a)] at h4
      have h5 := Int.emod_nonneg (-a) (by omega : b ≠ 0)
      have h6 : (-a) % b ≤ -a := emod_le' (by omega) hb0
      omega
  rw [e]
  rw [show (a - a.tmod b).bmod (2 ^ 32) = a - a.tmod b from by rw [Int.bmod_eq_of_le] <;> omega]
  rw [Int.bmod_eq_of_le] <;> omega
section
variable {d : Nat} {sh : List Kd} {σ : Sto} {Q : Option AV → List Kd → Sto → Prop}
theorem c_abs {x : Int} (hx : -2147483648 < x ∧ x ≤ 2147483647) : Ex d mJ9_abs_0f7a4 0 [some (.inl x)] [] sh σ Q = Q (some (.inl (if x < 0 then -x else x))) sh σ := by
  simp only [sJ9_abs_0f7a4_0, sJ9_abs_0f7a4_1, sJ9_abs_0f7a4_4, sJ9_abs_0f7a4_5, sJ9_abs_0f7a4_6, sJ9_abs_0f7a4_9, sJ9_abs_0f7a4_10, up_s, up_k, up_i, clr_n, clr_i, clr_j, clr_r, catS_n, catS_i, catS_j, catS_r, Option.toList_some, Option.toList_none, List.cons_append, List.nil_append, List.singleton_append, true_and, and_true, ne_eq, not_false_eq_true, not_true_eq_false, reduceCtorEq, if_true, if_false, true_or, or_true, false_or, or_false, Nat.reduceLT, Nat.reduceEqDiff, Nat.reduceAdd, Nat.reduceLeDiff, Int.reduceEq, Int.reduceNe, Int.reduceLT, Int.reduceLE, Int.reduceAdd, Int.reduceNeg, Int.reduceSub, Int.reduceMul]
  split
  · rw [if_neg (by omega)]
  · rw [if_pos (by omega), w32_of ⟨by omega, by omega⟩]
theorem c_max {x y : Int} : Ex d mJ9_max_7cf53 0 [some (.inl x), some (.inl y)] [] sh σ Q = Q (some (.inl (max x y))) sh σ := by
  simp only [sJ9_max_7cf53_0, sJ9_max_7cf53_1, sJ9_max_7cf53_2, sJ9_max_7cf53_5, sJ9_max_7cf53_6, sJ9_max_7cf53_9, sJ9_max_7cf53_10, up_s, up_k, up_i, clr_n, clr_i, clr_j, clr_r, catS_n, catS_i, catS_j, catS_r, Option.toList_some, Option.toList_none, List.cons_append, List.nil_append, List.singleton_append, true_and, and_true, ne_eq, not_false_eq_true, not_true_eq_false, reduceCtorEq, if_true, if_false, true_or, or_true, false_or, or_false, Nat.reduceLT, Nat.reduceEqDiff, Nat.reduceAdd, Nat.reduceLeDiff, Int.reduceEq, Int.reduceNe, Int.reduceLT, Int.reduceLE, Int.reduceAdd, Int.reduceNeg, Int.reduceSub, Int.reduceMul]
  split
  · rw [show max x y = y by omega]
  · rw [show max x y = x by omega]
theorem c_min {x y : Int} : Ex d mJ9_min_7cf53 0 [some (.inl x), some (.inl y)] [] sh σ Q = Q (some (.inl (min x y))) sh σ := by
  simp only [sJ9_min_7cf53_0, sJ9_min_7cf53_1, sJ9_min_7cf53_2, sJ9_min_7cf53_5, sJ9_min_7cf53_6, sJ9_min_7cf53_9, sJ9_min_7cf53_10, up_s, up_k, up_i, clr_n, clr_i, clr_j, clr_r, catS_n, catS_i, catS_j, catS_r, Option.toList_some, Option.toList_none, List.cons_append, List.nil_append, List.singleton_append, true_and, and_true, ne_eq, not_false_eq_true, not_true_eq_false, reduceCtorEq, if_true, if_false, true_or, or_true, false_or, or_false, Nat.reduceLT, Nat.reduceEqDiff, Nat.reduceAdd, Nat.reduceLeDiff, Int.reduceEq, Int.reduceNe, Int.reduceLT, Int.reduceLE, Int.reduceAdd, Int.reduceNeg, Int.reduceSub, Int.reduceMul]
  split
  · rw [show min x y = y by omega]
  · rw [show min x y = x by omega]
theorem jcmp_lt (a b : Int) : jcmp a b < 0 ↔ a < b := by unfold jcmp; split; omega; split <;> omega
theorem jcmp_gt (a b : Int) : 0 < jcmp a b ↔ b < a := by unfold jcmp; split; omega; split <;> omega
theorem jcmp_le (a b : Int) : jcmp a b ≤ 0 ↔ a ≤ b := by unfold jcmp; split; omega; split <;> omega
theorem jcmp_ge (a b : Int) : 0 ≤ jcmp a b ↔ b ≤ a := by unfold jcmp; split; omega; split <;> omega
theorem jcmp_eq (a b : Int) : jcmp a b = 0 ↔ a = b := by unfold jcmp; split; omega; split <;> omega
theorem c_maxJ {x y : Int} : Ex d mJ9_max_f86c9 0 [some (.inr (.inl x)), none, some (.inr (.inl y)), none] [] sh σ Q = Q (some (.inr (.inl (max x y)))) sh σ := by
  simp only [sJ9_max_f86c9_0, sJ9_max_f86c9_1, sJ9_max_f86c9_2, sJ9_max_f86c9_3, sJ9_max_f86c9_6, sJ9_max_f86c9_7, sJ9_max_f86c9_10, sJ9_max_f86c9_11, up_s, up_k, up_i, clr_n, clr_i, clr_j, clr_r, catS_n, catS_i, catS_j, catS_r, Option.toList_some, Option.toList_none, List.cons_append, List.nil_append, List.singleton_append, true_and, and_true, ne_eq, not_false_eq_true, not_true_eq_false, reduceCtorEq, if_true, if_false, true_or, or_true, false_or, or_false, Nat.reduceLT, Nat.reduceEqDiff, Nat.reduceAdd, Nat.reduceLeDiff, Int.reduceEq, Int.reduceNe, Int.reduceLT, Int.reduceLE, Int.reduceAdd, Int.reduceNeg, Int.reduceSub, Int.reduceMul, jcmp_lt]
  split
  · rw [show max x y = y by omega]
  · rw [show max x y = x by omega]
theorem c_minJ {x y : Int} : Ex d mJ9_min_f86c9 0 [some (.inr (.inl x)), none, some (.inr (.inl y)), none] [] sh σ Q = Q (some (.inr (.inl (min x y)))) sh σ := by
  simp only [sJ9_min_f86c9_0, sJ9_min_f86c9_1, sJ9_min_f86c9_2, sJ9_min_f86c9_3, sJ9_min_f86c9_6, sJ9_min_f86c9_7, sJ9_min_f86c9_10, sJ9_min_f86c9_11, up_s, up_k, up_i, clr_n, clr_i, clr_j, clr_r, catS_n, catS_i, catS_j, catS_r, Option.toList_some, Option.toList_none, List.cons_append, List.nil_append, List.singleton_append, true_and, and_true, ne_eq, not_false_eq_true, not_true_eq_false, reduceCtorEq, if_true, if_false, true_or, or_true, false_or, or_false, Nat.reduceLT, Nat.reduceEqDiff, Nat.reduceAdd, Nat.reduceLeDiff, Int.reduceEq, Int.reduceNe, Int.reduceLT, Int.reduceLE, Int.reduceAdd, Int.reduceNeg, Int.reduceSub, Int.reduceMul, jcmp_gt]
  split
  · rw [show min x y = y by omega]
  · rw [show min x y = x by omega]
theorem zxor_nn {x y : Int} (hx : z32 x) (hy : z32 y) (h0 : 0 < y) : 0 ≤ zxor x y ↔ 0 ≤ x := by
  have e1 : (Int32.ofInt x ^^^ Int32.ofInt y).toBitVec.msb = (Int32.ofInt x).toBitVec.msb := by
    rw [Int32.toBitVec_xor, BitVec.msb_xor]
    have : (Int32.ofInt y).toBitVec.msb = false := by
      rw [BitVec.msb_eq_toInt]
      have h1 : (Int32.ofInt y).toBitVec.toInt = y := of32' hy
      rw [h1]
      simp; omega
    rw [this, Bool.xor_false]
  rw [BitVec.msb_eq_toInt, BitVec.msb_eq_toInt] at e1
  have h1 : (Int32.ofInt x).toBitVec.toInt = x := of32' hx
  have h2 : (Int32.ofInt x ^^^ Int32.ofInt y).toBitVec.toInt = zxor x y := rfl
  rw [h1, h2] at e1
  have e2 : zxor x y < 0 ↔ x < 0 := by simpa using e1
  omega
theorem tmod_nn {x y : Int} (h : 0 ≤ x) : x.tmod y = x % y := Int.tmod_eq_emod_of_nonneg h
theorem tmod_neg {x y : Int} (h : x < 0) (h0 : 0 < y) : (x.tmod y = 0 → x % y = 0) ∧ (¬ x.tmod y = 0 → x % y = x.tmod y + y) ∧ -y < x.tmod y ∧ x.tmod y ≤ 0 := by
  have e := Int.mul_tdiv_add_tmod x y
  have h2 := tmod_bounds (a := x) h0
  have h4 : x.tmod y = -((-x).tmod y) := by rw [Int.neg_tmod]; omega
  rw [Int.tmod_eq_emod_of_nonneg (by omega : 0 ≤ -x)] at h4
  have h5 := Int.emod_nonneg (-x) (by omega : y ≠ 0)
  refine ⟨fun h6 => ?_, fun h6 => ?_, h2.1, by omega⟩
  · rw [← e, h6, Int.add_zero]; exact Int.mul_emod_right _ _
  · have : x % y = (x.tmod y + y) % y := by
      conv => lhs; rw [← e]
      rw [Int.add_comm, Int.add_mul_emod_self_left, Int.add_emod_right]
    rw [this, Int.emod_eq_of_lt (by omega) (by omega)]
theorem c_floorMod {x y : Int} (hx : z32 x) (hy : z32 y) (h0 : 0 < y) : Ex d mJ9_floorMod_7cf53 0 [some (.inl x), some (.inl y), none] [] sh σ Q = Q (some (.inl (x % y))) sh σ := by
  simp only [sJ9_floorMod_7cf53_0, sJ9_floorMod_7cf53_1, sJ9_floorMod_7cf53_2, sJ9_floorMod_7cf53_3, sJ9_floorMod_7cf53_4, sJ9_floorMod_7cf53_5, sJ9_floorMod_7cf53_6, sJ9_floorMod_7cf53_7, sJ9_floorMod_7cf53_10, sJ9_floorMod_7cf53_11, sJ9_floorMod_7cf53_14, sJ9_floorMod_7cf53_15, sJ9_floorMod_7cf53_16, sJ9_floorMod_7cf53_17, sJ9_floorMod_7cf53_18, sJ9_floorMod_7cf53_19, up_s, up_k, up_i, clr_n, clr_i, clr_j, clr_r, catS_n, catS_i, catS_j, catS_r, Option.toList_some, Option.toList_none, List.cons_append, List.nil_append, List.singleton_append, true_and, and_true, ne_eq, not_false_eq_true, not_true_eq_false, reduceCtorEq, if_true, if_false, true_or, or_true, false_or, or_false, Nat.reduceLT, Nat.reduceEqDiff, Nat.reduceAdd, Nat.reduceLeDiff, Int.reduceEq, Int.reduceNe, Int.reduceLT, Int.reduceLE, Int.reduceAdd, Int.reduceNeg, Int.reduceSub, Int.reduceMul, zrem_eq hx hy h0]
  rw [eq_true (show ¬ y = 0 by omega), true_and]
  simp only [zxor_nn hx hy h0]
  by_cases h : 0 ≤ x
  · rw [if_pos h, tmod_nn h]
  · rw [if_neg h]
    obtain ⟨h1, h2, h3, h4⟩ := tmod_neg (by omega : x < 0) h0
    split
    · rename_i h5; rw [h1 h5, h5]
    · rename_i h5
      have := hy.2
      rw [h2 h5, w32_of ⟨by omega, by omega⟩]
theorem c_floorDiv {x y : Int} (hx : z32 x) (hy : z32 y) (h0 : 0 < y) : Ex d mJ9_floorDiv_7cf53 0 [some (.inl x), some (.inl y), none] [] sh σ Q = Q (some (.inl (x / y))) sh σ := by
  simp only [sJ9_floorDiv_7cf53_0, sJ9_floorDiv_7cf53_1, sJ9_floorDiv_7cf53_2, sJ9_floorDiv_7cf53_3, sJ9_floorDiv_7cf53_4, sJ9_floorDiv_7cf53_5, sJ9_floorDiv_7cf53_6, sJ9_floorDiv_7cf53_7, sJ9_floorDiv_7cf53_10, sJ9_floorDiv_7cf53_11, sJ9_floorDiv_7cf53_12, sJ9_floorDiv_7cf53_13, sJ9_floorDiv_7cf53_14, sJ9_floorDiv_7cf53_17, sJ9_floorDiv_7cf53_18, sJ9_floorDiv_7cf53_19, sJ9_floorDiv_7cf53_20, sJ9_floorDiv_7cf53_21, sJ9_floorDiv_7cf53_22, up_s, up_k, up_i, clr_n, clr_i, clr_j, clr_r, catS_n, catS_i, catS_j, catS_r, Option.toList_some, Option.toList_none, List.cons_append, List.nil_append, List.singleton_append, true_and, and_true, ne_eq, not_false_eq_true, not_true_eq_false, reduceCtorEq, if_true, if_false, true_or, or_true, false_or, or_false, Nat.reduceLT, Nat.reduceEqDiff, Nat.reduceAdd, Nat.reduceLeDiff, Int.reduceEq, Int.reduceNe, Int.reduceLT, Int.reduceLE, Int.reduceAdd, Int.reduceNeg, Int.reduceSub, Int.reduceMul, zdiv_eq hx hy h0]
  rw [eq_true (show ¬ y = 0 by omega), true_and]
  simp only [zxor_nn hx hy h0]
  by_cases h : 0 ≤ x
  · rw [if_pos h, Int.tdiv_eq_ediv_of_nonneg h]
  · rw [if_neg h]
    obtain ⟨h1, h2, h3, h4⟩ := tmod_neg (by omega : x < 0) h0
    have e := Int.mul_tdiv_add_tmod x y
    have e2 := Int.mul_ediv_add_emod x y
    have g1 := hx.1
    have g2 := hy.2
    have em : x.tdiv y * y = x - x.tmod y := by rw [Int.mul_comm]; omega
    have hb : -2147483648 ≤ x.tdiv y ∧ x.tdiv y ≤ 0 := by
      have h6 : 0 ≤ (-x).tdiv y := Int.tdiv_nonneg (by omega) (by omega)
      have h7 : (-x).tdiv y ≤ -x := by rw [Int.tdiv_eq_ediv_of_nonneg (by omega)]; exact Int.ediv_le_self _ (by omega)
      rw [Int.neg_tdiv] at h6 h7
      omega
    rw [em, w32_of (n := x - x.tmod y) ⟨by omega, by omega⟩]
    by_cases h5 : x.tmod y = 0
    · rw [if_pos (by omega)]
      have := h1 h5
      have : y * x.tdiv y = y * (x / y) := by omega
      rw [Int.eq_of_mul_eq_mul_left (by omega) this]
    · rw [if_neg (by omega)]
      have h6 := h2 h5
      have h7 : y * (x.tdiv y - 1) = y * (x / y) := by rw [Int.mul_sub]; omega
      have h8 := Int.eq_of_mul_eq_mul_left (by omega : y ≠ 0) h7
      have hx2 : -2147483648 ≤ x.tdiv y - 1 := by
        by_cases h9 : y = 1
        · subst h9; simp at h5
        · have h10 : 2 ≤ y := by omega
          have h11 : -2147483647 ≤ x.tdiv y := by
            have h6 : (-x).tdiv y ≤ 1073741824 := by
              rw [Int.tdiv_eq_ediv_of_nonneg (by omega)]
              have := Int.ediv_le_ediv (a := -x) (b := 2147483648) (c := y) (by omega) (by omega)
              have h12 : (2147483648 : Int) / y ≤ 1073741824 := by
                apply Int.ediv_le_of_le_mul (by omega)
                omega
              omega
            rw [Int.neg_tdiv] at h6
            omega
          omega
      rw [w32_of ⟨hx2, by omega⟩, h8]
end
