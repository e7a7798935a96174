-- sets of people that are held against each other
section
variable {d : Nat} {sh : List Kd} {σ : Sto} {Q : Option AV → List Kd → Sto → Prop} {t : Nat} {M : Sto} {Ls : List (List Cl)}
theorem peI.and {x y : Int} {f g : Int → Bool} (h : peI x f) (h' : peI y g) : peI (zand x y) (fun v => f v && g v) := by
  obtain ⟨a0, a1, a2⟩ := h
  obtain ⟨b0, b1, b2⟩ := h'
  have e := zand_n (a := x.toNat) (b := y.toNat) (by omega) (by omega)
  rw [show ((x.toNat : Nat) : Int) = x by omega, show ((y.toNat : Nat) : Int) = y by omega] at e
  have l := Nat.and_lt_two_pow (n := 6) x.toNat (y := y.toNat) (by omega)
  rw [e]
  refine ⟨by omega, by omega, fun v v0 v1 => ?_⟩
  rw [Int.toNat_natCast, Nat.testBit_and, a2 v v0 v1, b2 v v0 v1]
theorem peI.zero {x : Int} {f : Int → Bool} (h : peI x f) : x = 0 ↔ ∀ v, 0 ≤ v → v < 6 → f v = false := by
  constructor
  · intro e v v0 v1
    rw [← h.2.2 v v0 v1, e]; simp
  · intro e
    exact peI.eq (h.cg e) peI_0
theorem peI_n {s : Nat} (h : s < 64) : peI (s : Int) (fun v => s.testBit v.toNat) := ⟨by omega, by omega, fun v _ _ => by rw [Int.toNat_natCast]⟩
theorem bit1 : ∀ s : Fin 64, ∀ a : Fin 6, (zand (zshr (s.val : Int) (a.val : Int)) 1 = 1) ↔ s.val.testBit a.val = true := by decide +kernel
theorem bc_64 : ∀ s : Fin 64, 0 ≤ bc (s.val : Int) ∧ bc (s.val : Int) ≤ 6 := by decide +kernel
def lwB (s f : Int) : Bool := decide (¬ zand (zand s (zxor s f)) (w32 (-zxor s f)) = 0)
def grB (s f : Int) : Bool := decide (bc f < bc s) || (decide (bc s = bc f) && lwB s f)
def smB (s f : Int) : Bool := decide (bc s < bc f) || (decide (bc s = bc f) && lwB s f)
theorem c_hasLower {s f : Int} : Ex d mX11_hasLowerOne 0 [(some (.inl (s))), (some (.inl (f))), none] [] sh σ Q = Q (some (.inl (bz (lwB s f = true)))) sh σ := by
  simp only [sX11_hasLowerOne_0, sX11_hasLowerOne_1, sX11_hasLowerOne_2, sX11_hasLowerOne_3, sX11_hasLowerOne_4, sX11_hasLowerOne_5, sX11_hasLowerOne_6, sX11_hasLowerOne_7, sX11_hasLowerOne_8, sX11_hasLowerOne_9, sX11_hasLowerOne_10, sX11_hasLowerOne_13, sX11_hasLowerOne_14, sX11_hasLowerOne_17, sX11_hasLowerOne_18, up_s, up_k, up_i, clr_n, clr_i, clr_j, clr_r, catS_n, catS_i, catS_j, catS_r, Option.toList_some, Option.toList_none, List.cons_append, List.nil_append, List.singleton_append, true_and, and_true, ne_eq, not_false_eq_true, not_true_eq_false, reduceCtorEq, if_true, if_false, true_or, or_true, false_or, or_false, Nat.reduceLT, Nat.reduceEqDiff, Nat.reduceAdd, Nat.reduceLeDiff, Int.reduceEq, Int.reduceNe, Int.reduceLT, Int.reduceLE, Int.reduceAdd, Int.reduceNeg, Int.reduceSub, Int.reduceMul]
  unfold lwB
  by_cases c : zand (zand s (zxor s f)) (w32 (-zxor s f)) = 0
  · rw [if_pos c, bz_f (by rw [decide_eq_false (fun q => q c)]; decide)]
  · rw [if_neg c, bz_t (decide_eq_true c)]
theorem c_isGreater {s f : Nat} (hs : s < 64) (hf : f < 64) : Ex (d + 1) mX11_isGreater 0 [(some (.inl ((s : Int)))), (some (.inl ((f : Int)))), none] [] sh σ Q = Q (some (.inl (bz (grB s f = true)))) sh σ := by
  have b1 := bc_64 ⟨s, hs⟩
  have b2 := bc_64 ⟨f, hf⟩
  simp only at b1 b2
  have e1 : w32 (bc s - bc f) = bc s - bc f := w32_of ⟨by omega, by omega⟩
  unfold grB
  by_cases c1 : bc f < bc s
  · have c2 : 0 < bc s - bc f := by omega
    rw [decide_eq_true c1, Bool.true_or, bz_t rfl]
    simp only [sX11_isGreater_0, sX11_isGreater_1, sX11_isGreater_4, sX11_isGreater_5, sX11_isGreater_8, sX11_isGreater_9, sX11_isGreater_10, sX11_isGreater_11, sX11_isGreater_14, sX11_isGreater_15, sX11_isGreater_18, sX11_isGreater_19, sX11_isGreater_20, sX11_isGreater_23, sX11_isGreater_26, sX11_isGreater_27, sX11_isGreater_30, sX11_isGreater_31, up_s, up_k, up_i, clr_n, clr_i, clr_j, clr_r, catS_n, catS_i, catS_j, catS_r, Option.toList_some, Option.toList_none, List.cons_append, List.nil_append, List.singleton_append, true_and, and_true, ne_eq, not_false_eq_true, not_true_eq_false, reduceCtorEq, if_true, if_false, true_or, or_true, false_or, or_false, Nat.reduceLT, Nat.reduceEqDiff, Nat.reduceAdd, Nat.reduceLeDiff, Int.reduceEq, Int.reduceNe, Int.reduceLT, Int.reduceLE, Int.reduceAdd, Int.reduceNeg, Int.reduceSub, Int.reduceMul, c_bitCount, e1, c2]
  · have c2 : ¬ 0 < bc s - bc f := by omega
    rw [decide_eq_false c1, Bool.false_or]
    by_cases c3 : bc s = bc f
    · have c4 : bc s - bc f = 0 := by omega
      rw [decide_eq_true c3, Bool.true_and]
      simp only [sX11_isGreater_0, sX11_isGreater_1, sX11_isGreater_4, sX11_isGreater_5, sX11_isGreater_8, sX11_isGreater_9, sX11_isGreater_10, sX11_isGreater_11, sX11_isGreater_14, sX11_isGreater_15, sX11_isGreater_18, sX11_isGreater_19, sX11_isGreater_20, sX11_isGreater_23, sX11_isGreater_26, sX11_isGreater_27, sX11_isGreater_30, sX11_isGreater_31, up_s, up_k, up_i, clr_n, clr_i, clr_j, clr_r, catS_n, catS_i, catS_j, catS_r, Option.toList_some, Option.toList_none, List.cons_append, List.nil_append, List.singleton_append, true_and, and_true, ne_eq, not_false_eq_true, not_true_eq_false, reduceCtorEq, if_true, if_false, true_or, or_true, false_or, or_false, Nat.reduceLT, Nat.reduceEqDiff, Nat.reduceAdd, Nat.reduceLeDiff, Int.reduceEq, Int.reduceNe, Int.reduceLT, Int.reduceLE, Int.reduceAdd, Int.reduceNeg, Int.reduceSub, Int.reduceMul, c_bitCount, e1, c4, w32_0, c_hasLower]
      rcases bz_01 (lwB s f = true) with e | e <;> rw [e] <;> simp only [up_s, up_k, up_i, clr_n, clr_i, clr_j, clr_r, catS_n, catS_i, catS_j, catS_r, Option.toList_some, Option.toList_none, List.cons_append, List.nil_append, List.singleton_append, true_and, and_true, ne_eq, not_false_eq_true, not_true_eq_false, reduceCtorEq, if_true, if_false, true_or, or_true, false_or, or_false, Nat.reduceLT, Nat.reduceEqDiff, Nat.reduceAdd, Nat.reduceLeDiff, Int.reduceEq, Int.reduceNe, Int.reduceLT, Int.reduceLE, Int.reduceAdd, Int.reduceNeg, Int.reduceSub, Int.reduceMul]
    · have c4 : ¬ bc s - bc f = 0 := by omega
      rw [decide_eq_false c3, Bool.false_and, bz_f (by decide)]
      simp only [sX11_isGreater_0, sX11_isGreater_1, sX11_isGreater_4, sX11_isGreater_5, sX11_isGreater_8, sX11_isGreater_9, sX11_isGreater_10, sX11_isGreater_11, sX11_isGreater_14, sX11_isGreater_15, sX11_isGreater_18, sX11_isGreater_19, sX11_isGreater_20, sX11_isGreater_23, sX11_isGreater_26, sX11_isGreater_27, sX11_isGreater_30, sX11_isGreater_31, up_s, up_k, up_i, clr_n, clr_i, clr_j, clr_r, catS_n, catS_i, catS_j, catS_r, Option.toList_some, Option.toList_none, List.cons_append, List.nil_append, List.singleton_append, true_and, and_true, ne_eq, not_false_eq_true, not_true_eq_false, reduceCtorEq, if_true, if_false, true_or, or_true, false_or, or_false, Nat.reduceLT, Nat.reduceEqDiff, Nat.reduceAdd, Nat.reduceLeDiff, Int.reduceEq, Int.reduceNe, Int.reduceLT, Int.reduceLE, Int.reduceAdd, Int.reduceNeg, Int.reduceSub, Int.reduceMul, c_bitCount, e1, c2, c4]
theorem c_isSmaller {s f : Nat} (hs : s < 64) (hf : f < 64) : Ex (d + 1) mX11_isSmaller 0 [(some (.inl ((s : Int)))), (some (.inl ((f : Int)))), none] [] sh σ Q = Q (some (.inl (bz (smB s f = true)))) sh σ := by
  have b1 := bc_64 ⟨s, hs⟩
  have b2 := bc_64 ⟨f, hf⟩
  simp only at b1 b2
  have e1 : w32 (bc s - bc f) = bc s - bc f := w32_of ⟨by omega, by omega⟩
  unfold smB
  by_cases c1 : bc s < bc f
  · have c2 : bc s - bc f < 0 := by omega
    rw [decide_eq_true c1, Bool.true_or, bz_t rfl]
    simp only [sX11_isSmaller_0, sX11_isSmaller_1, sX11_isSmaller_4, sX11_isSmaller_5, sX11_isSmaller_8, sX11_isSmaller_9, sX11_isSmaller_10, sX11_isSmaller_11, sX11_isSmaller_14, sX11_isSmaller_15, sX11_isSmaller_18, sX11_isSmaller_19, sX11_isSmaller_20, sX11_isSmaller_23, sX11_isSmaller_26, sX11_isSmaller_27, sX11_isSmaller_30, sX11_isSmaller_31, up_s, up_k, up_i, clr_n, clr_i, clr_j, clr_r, catS_n, catS_i, catS_j, catS_r, Option.toList_some, Option.toList_none, List.cons_append, List.nil_append, List.singleton_append, true_and, and_true, ne_eq, not_false_eq_true, not_true_eq_false, reduceCtorEq, if_true, if_false, true_or, or_true, false_or, or_false, Nat.reduceLT, Nat.reduceEqDiff, Nat.reduceAdd, Nat.reduceLeDiff, Int.reduceEq, Int.reduceNe, Int.reduceLT, Int.reduceLE, Int.reduceAdd, Int.reduceNeg, Int.reduceSub, Int.reduceMul, c_bitCount, e1, c2]
  · have c2 : ¬ bc s - bc f < 0 := by omega
    rw [decide_eq_false c1, Bool.false_or]
    by_cases c3 : bc s = bc f
    · have c4 : bc s - bc f = 0 := by omega
      rw [decide_eq_true c3, Bool.true_and]
      simp only [sX11_isSmaller_0, sX11_isSmaller_1, sX11_isSmaller_4, sX11_isSmaller_5, sX11_isSmaller_8, sX11_isSmaller_9, sX11_isSmaller_10, sX11_isSmaller_11, sX11_isSmaller_14, sX11_isSmaller_15, sX11_isSmaller_18, sX11_isSmaller_19, sX11_isSmaller_20, sX11_isSmaller_23, sX11_isSmaller_26, sX11_isSmaller_27, sX11_isSmaller_30, sX11_isSmaller_31, up_s, up_k, up_i, clr_n, clr_i, clr_j, clr_r, catS_n, catS_i, catS_j, catS_r, Option.toList_some, Option.toList_none, List.cons_append, List.nil_append, List.singleton_append, true_and, and_true, ne_eq, not_false_eq_true, not_true_eq_false, reduceCtorEq, if_true, if_false, true_or, or_true, false_or, or_false, Nat.reduceLT, Nat.reduceEqDiff, Nat.reduceAdd, Nat.reduceLeDiff, Int.reduceEq, Int.reduceNe, Int.reduceLT, Int.reduceLE, Int.reduceAdd, Int.reduceNeg, Int.reduceSub, Int.reduceMul, c_bitCount, e1, c4, w32_0, c_hasLower]
      rcases bz_01 (lwB s f = true) with e | e <;> rw [e] <;> simp only [up_s, up_k, up_i, clr_n, clr_i, clr_j, clr_r, catS_n, catS_i, catS_j, catS_r, Option.toList_some, Option.toList_none, List.cons_append, List.nil_append, List.singleton_append, true_and, and_true, ne_eq, not_false_eq_true, not_true_eq_false, reduceCtorEq, if_true, if_false, true_or, or_true, false_or, or_false, Nat.reduceLT, Nat.reduceEqDiff, Nat.reduceAdd, Nat.reduceLeDiff, Int.reduceEq, Int.reduceNe, Int.reduceLT, Int.reduceLE, Int.reduceAdd, Int.reduceNeg, Int.reduceSub, Int.reduceMul]
    · have c4 : ¬ bc s - bc f = 0 := by omega
      rw [decide_eq_false c3, Bool.false_and, bz_f (by decide)]
      simp only [sX11_isSmaller_0, sX11_isSmaller_1, sX11_isSmaller_4, sX11_isSmaller_5, sX11_isSmaller_8, sX11_isSmaller_9, sX11_isSmaller_10, sX11_isSmaller_11, sX11_isSmaller_14, sX11_isSmaller_15, sX11_isSmaller_18, sX11_isSmaller_19, sX11_isSmaller_20, sX11_isSmaller_23, sX11_isSmaller_26, sX11_isSmaller_27, sX11_isSmaller_30, sX11_isSmaller_31, up_s, up_k, up_i, clr_n, clr_i, clr_j, clr_r, catS_n, catS_i, catS_j, catS_r, Option.toList_some, Option.toList_none, List.cons_append, List.nil_append, List.singleton_append, true_and, and_true, ne_eq, not_false_eq_true, not_true_eq_false, reduceCtorEq, if_true, if_false, true_or, or_true, false_or, or_false, Nat.reduceLT, Nat.reduceEqDiff, Nat.reduceAdd, Nat.reduceLeDiff, Int.reduceEq, Int.reduceNe, Int.reduceLT, Int.reduceLE, Int.reduceAdd, Int.reduceNeg, Int.reduceSub, Int.reduceMul, c_bitCount, e1, c2, c4]
theorem r_isBefore {s f : Int} : Ex (d + 1) mX12_isBefore 0 [(some (.inl (s))), (some (.inl (f))), none] [] sh σ Q = Q (some (.inl (bz (smB s f = true)))) sh σ := by
  unfold smB lwB
  by_cases c3 : bc s = bc f
  · rw [decide_eq_true c3, Bool.true_and, decide_eq_false (show ¬ bc s < bc f by omega), Bool.false_or]
    by_cases c : zand (zand s (zxor s f)) (w32 (-zxor s f)) = 0
    · rw [bz_f (by rw [decide_eq_false (fun q => q c)]; decide)]
      simp only [sX12_isBefore_0, sX12_isBefore_1, sX12_isBefore_2, sX12_isBefore_3, sX12_isBefore_4, sX12_isBefore_5, sX12_isBefore_8, sX12_isBefore_9, sX12_isBefore_12, sX12_isBefore_15, sX12_isBefore_16, sX12_isBefore_19, sX12_isBefore_20, sX12_isBefore_23, sX12_isBefore_26, sX12_isBefore_27, sX12_isBefore_30, sX12_isBefore_31, sX12_isBefore_34, sX12_isBefore_35, sX12_isBefore_36, sX12_isBefore_37, sX12_isBefore_38, sX12_isBefore_39, sX12_isBefore_40, sX12_isBefore_43, sX12_isBefore_44, sX12_isBefore_47, sX12_isBefore_48, up_s, up_k, up_i, clr_n, clr_i, clr_j, clr_r, catS_n, catS_i, catS_j, catS_r, Option.toList_some, Option.toList_none, List.cons_append, List.nil_append, List.singleton_append, true_and, and_true, ne_eq, not_false_eq_true, not_true_eq_false, reduceCtorEq, if_true, if_false, true_or, or_true, false_or, or_false, Nat.reduceLT, Nat.reduceEqDiff, Nat.reduceAdd, Nat.reduceLeDiff, Int.reduceEq, Int.reduceNe, Int.reduceLT, Int.reduceLE, Int.reduceAdd, Int.reduceNeg, Int.reduceSub, Int.reduceMul, c_bitCount, eq_true c3, c]
    · rw [bz_t (decide_eq_true c)]
      simp only [sX12_isBefore_0, sX12_isBefore_1, sX12_isBefore_2, sX12_isBefore_3, sX12_isBefore_4, sX12_isBefore_5, sX12_isBefore_8, sX12_isBefore_9, sX12_isBefore_12, sX12_isBefore_15, sX12_isBefore_16, sX12_isBefore_19, sX12_isBefore_20, sX12_isBefore_23, sX12_isBefore_26, sX12_isBefore_27, sX12_isBefore_30, sX12_isBefore_31, sX12_isBefore_34, sX12_isBefore_35, sX12_isBefore_36, sX12_isBefore_37, sX12_isBefore_38, sX12_isBefore_39, sX12_isBefore_40, sX12_isBefore_43, sX12_isBefore_44, sX12_isBefore_47, sX12_isBefore_48, up_s, up_k, up_i, clr_n, clr_i, clr_j, clr_r, catS_n, catS_i, catS_j, catS_r, Option.toList_some, Option.toList_none, List.cons_append, List.nil_append, List.singleton_append, true_and, and_true, ne_eq, not_false_eq_true, not_true_eq_false, reduceCtorEq, if_true, if_false, true_or, or_true, false_or, or_false, Nat.reduceLT, Nat.reduceEqDiff, Nat.reduceAdd, Nat.reduceLeDiff, Int.reduceEq, Int.reduceNe, Int.reduceLT, Int.reduceLE, Int.reduceAdd, Int.reduceNeg, Int.reduceSub, Int.reduceMul, c_bitCount, eq_true c3, c]
  · rw [decide_eq_false c3, Bool.false_and, Bool.or_false]
    by_cases c1 : bc s < bc f
    · have c2 : ¬ bc f ≤ bc s := by omega
      rw [bz_t (decide_eq_true c1)]
      simp only [sX12_isBefore_0, sX12_isBefore_1, sX12_isBefore_2, sX12_isBefore_3, sX12_isBefore_4, sX12_isBefore_5, sX12_isBefore_8, sX12_isBefore_9, sX12_isBefore_12, sX12_isBefore_15, sX12_isBefore_16, sX12_isBefore_19, sX12_isBefore_20, sX12_isBefore_23, sX12_isBefore_26, sX12_isBefore_27, sX12_isBefore_30, sX12_isBefore_31, sX12_isBefore_34, sX12_isBefore_35, sX12_isBefore_36, sX12_isBefore_37, sX12_isBefore_38, sX12_isBefore_39, sX12_isBefore_40, sX12_isBefore_43, sX12_isBefore_44, sX12_isBefore_47, sX12_isBefore_48, up_s, up_k, up_i, clr_n, clr_i, clr_j, clr_r, catS_n, catS_i, catS_j, catS_r, Option.toList_some, Option.toList_none, List.cons_append, List.nil_append, List.singleton_append, true_and, and_true, ne_eq, not_false_eq_true, not_true_eq_false, reduceCtorEq, if_true, if_false, true_or, or_true, false_or, or_false, Nat.reduceLT, Nat.reduceEqDiff, Nat.reduceAdd, Nat.reduceLeDiff, Int.reduceEq, Int.reduceNe, Int.reduceLT, Int.reduceLE, Int.reduceAdd, Int.reduceNeg, Int.reduceSub, Int.reduceMul, c_bitCount, c3, c2]
    · have c2 : bc f ≤ bc s := by omega
      rw [bz_f (by rw [decide_eq_false c1]; decide)]
      simp only [sX12_isBefore_0, sX12_isBefore_1, sX12_isBefore_2, sX12_isBefore_3, sX12_isBefore_4, sX12_isBefore_5, sX12_isBefore_8, sX12_isBefore_9, sX12_isBefore_12, sX12_isBefore_15, sX12_isBefore_16, sX12_isBefore_19, sX12_isBefore_20, sX12_isBefore_23, sX12_isBefore_26, sX12_isBefore_27, sX12_isBefore_30, sX12_isBefore_31, sX12_isBefore_34, sX12_isBefore_35, sX12_isBefore_36, sX12_isBefore_37, sX12_isBefore_38, sX12_isBefore_39, sX12_isBefore_40, sX12_isBefore_43, sX12_isBefore_44, sX12_isBefore_47, sX12_isBefore_48, up_s, up_k, up_i, clr_n, clr_i, clr_j, clr_r, catS_n, catS_i, catS_j, catS_r, Option.toList_some, Option.toList_none, List.cons_append, List.nil_append, List.singleton_append, true_and, and_true, ne_eq, not_false_eq_true, not_true_eq_false, reduceCtorEq, if_true, if_false, true_or, or_true, false_or, or_false, Nat.reduceLT, Nat.reduceEqDiff, Nat.reduceAdd, Nat.reduceLeDiff, Int.reduceEq, Int.reduceNe, Int.reduceLT, Int.reduceLE, Int.reduceAdd, Int.reduceNeg, Int.reduceSub, Int.reduceMul, c_bitCount, c3, c2]
/-- all people -/
def evN (M : Sto) : Nat := 2 ^ (M 0 0).toNat - 1
theorem ev_lt (w : wfM M Ls) : evN M < 64 := by
  have e : 2 ^ (M 0 0).toNat ≤ 2 ^ 6 := Nat.pow_le_pow_right (by omega) (by have := w.sc; omega)
  unfold evN
  omega
theorem ev_v {P : Int} (h0 : 0 ≤ P) (h1 : P ≤ 6) : w32 (zshl 1 P - 1) = ((2 ^ P.toNat - 1 : Nat) : Int) := by
  rcases (show P = 0 ∨ P = 1 ∨ P = 2 ∨ P = 3 ∨ P = 4 ∨ P = 5 ∨ P = 6 by omega) with rfl | rfl | rfl | rfl | rfl | rfl | rfl <;> decide
theorem C_everybody (r : RepC σ M Ls) : Ex d mX11_everybody 0 [(some (.inr (.inr (some (0)))))] [] shC σ Q = Q (some (.inl ((evN M : Int)))) shC σ := by
  have w := r.wf.sc
  simp only [sX11_everybody_0, sX11_everybody_1, sX11_everybody_2, sX11_everybody_5, sX11_everybody_8, sX11_everybody_9, sX11_everybody_10, sX11_everybody_11, up_s, up_k, up_i, clr_n, clr_i, clr_j, clr_r, catS_n, catS_i, catS_j, catS_r, Option.toList_some, Option.toList_none, List.cons_append, List.nil_append, List.singleton_append, true_and, and_true, ne_eq, not_false_eq_true, not_true_eq_false, reduceCtorEq, if_true, if_false, true_or, or_true, false_or, or_false, Nat.reduceLT, Nat.reduceEqDiff, Nat.reduceAdd, Nat.reduceLeDiff, Int.reduceEq, Int.reduceNe, Int.reduceLT, Int.reduceLE, Int.reduceAdd, Int.reduceNeg, Int.reduceSub, Int.reduceMul, hC_0_0, hC_0_1, hC_0_2, hC_0_3, hC_0_4, hC_0_5, hC_0_6, hC_0_7, hC_0_8, hC_0_9, hC_0_10, hC_0_11, hC_0_12, hC_0_13, hC_0_14, hC_0_15, hC_0_16, hC_1_0, hC_1_1, hC_1_2, hC_1_3, hC_1_4, hC_1_5, hC_2_0, hC_3_0, hC_3_1, hC_3_2, hC_3_3, hC_3_4, hC_3_5, hC_3_6, hC_3_7, hC_3_8, hC_3_9, hC_3_10, hC_3_11, hC_3_12, hC_4_0, hC_5_0, hC_6_0, hC_7_0, hC_8_0, hC_9_0, hC_9_1, hC_9_2, hC_10_0, hC_10_1, hC_10_2, hC_10_3, hC_10_4, hC_10_5, hC_10_6, hC_10_7, hC_10_8, hC_11_0, hC_12_0, hC_13_0, hC_14_0, hC_14_1, hC_14_2, hC_14_3, hC_14_4, hC_14_5, hC_14_6, hC_14_7, hC_14_8, hC_14_9, hC_14_10, hC_14_11, hC_14_12, hC_14_13, hC_14_14, hC_14_15, hC_14_16, hC_14_17, hC_14_18, hC_14_19, hC_14_20, hC_14_21, hC_14_22, hC_14_23, hC_15_0, hC_16_0, hC_17_0, hC_18_0, hC_18_1, hC_18_2, hC_18_3, hC_18_4, hC_19_0, hC_20_0, hC_20_1, hC_20_2, hC_20_3, hC_20_4, hC_20_5, hC_20_6, hC_20_7, hC_20_8, hC_21_0, hC_22_0, hC_23_0, hC_24_0, hC_24_1, hC_24_2, hC_24_3, hC_24_4, hC_24_5, hC_24_6, hC_24_7, hC_24_8, hC_25_0, hC_26_0, hC_27_0, hC_28_0, hC_28_1, hC_28_2, hC_28_3, hC_28_4, hC_28_5, hC_28_6, hC_28_7, hC_28_8, hC_29_0, hC_30_0, hC_31_0, hC_32_0, hC_32_1, hC_32_2, hC_32_3, hC_32_4, hC_32_5, hC_32_6, hC_32_7, hC_32_8, hC_33_0, hC_34_0, hC_35_0, hC_36_0, hC_36_1, hC_36_2, hC_36_3, hC_36_4, hC_36_5, hC_36_6, hC_36_7, hC_36_8, hC_37_0, hC_38_0, hC_39_0, hC_39_1, hC_39_2, hC_39_3, hC_39_4, hC_39_5, hC_39_6, hC_39_7, hC_39_8, hC_40_0, hC_41_0, hC_42_0, hC_43_0, hC_44_0, hC_45_0, hC_45_1, hC_45_2, hC_45_3, hC_45_4, hC_45_5, hC_46_0, hC_47_0, hC_47_1, hC_47_2, hC_47_3, hC_47_4, hC_47_5, hC_47_6, hC_47_7, hC_47_8, hC_47_9, hC_47_10, hC_47_11, hC_47_12, hC_47_13, hC_48_0, hC_49_0, hC_50_0, hC_51_0, hC_52_0, hC_52_1, hC_52_2, hC_52_3, hC_52_4, hC_52_5, hC_52_6, hC_52_7, hC_52_8, hC_52_9, hC_52_10, hC_52_11, hC_52_12, hC_52_13, hC_53_0, hC_54_0, hC_55_0, hC_56_0, hC_57_0, hC_58_0, hC_58_1, hC_58_2, hC_59_0, r.sc.1, ev_v w.1 w.2.1]
  rfl
theorem R_everybody (r : RepR t σ M Ls) : Ex d mX12_everybody 0 [(some (.inr (.inr (some (0)))))] [] (shR t) σ Q = Q (some (.inl ((evN M : Int)))) (shR t) σ := by
  have w := r.wf.sc
  simp only [sX12_everybody_0, sX12_everybody_1, sX12_everybody_2, sX12_everybody_5, sX12_everybody_6, sX12_everybody_7, sX12_everybody_8, up_s, up_k, up_i, clr_n, clr_i, clr_j, clr_r, catS_n, catS_i, catS_j, catS_r, Option.toList_some, Option.toList_none, List.cons_append, List.nil_append, List.singleton_append, true_and, and_true, ne_eq, not_false_eq_true, not_true_eq_false, reduceCtorEq, if_true, if_false, true_or, or_true, false_or, or_false, Nat.reduceLT, Nat.reduceEqDiff, Nat.reduceAdd, Nat.reduceLeDiff, Int.reduceEq, Int.reduceNe, Int.reduceLT, Int.reduceLE, Int.reduceAdd, Int.reduceNeg, Int.reduceSub, Int.reduceMul, hR_0_0, hR_0_1, hR_0_2, hR_0_3, hR_0_4, hR_0_5, hR_0_6, hR_0_7, hR_0_8, hR_0_9, hR_0_10, hR_0_11, hR_0_12, hR_0_13, hR_0_14, hR_0_15, hR_0_16, hR_0_17, hR_0_18, hR_0_19, hR_0_20, hR_0_21, hR_0_22, hR_0_23, hR_0_24, hR_0_25, hR_0_26, hR_0_27, hR_0_28, hR_0_29, hR_0_30, hR_0_31, hR_0_32, hR_0_33, hR_0_34, hR_0_35, hR_0_36, hR_0_37, hR_0_38, hR_0_39, hR_0_40, hR_0_41, hR_0_42, hR_0_43, hR_0_44, hR_0_45, hR_0_46, hR_0_47, hR_0_48, hR_0_49, hR_0_50, hR_0_51, hR_0_52, hR_0_53, hR_0_54, hR_0_55, hR_0_56, hR_0_57, hR_0_58, hR_0_59, hR_0_60, hR_0_61, hR_0_62, hR_0_63, hR_0_64, hR_0_65, hR_0_66, hR_0_67, hR_0_68, hR_0_69, hR_0_70, hR_0_71, hR_0_72, hR_0_73, hR_0_74, hR_0_75, hR_0_76, hR_0_77, hR_0_78, hR_0_79, hR_0_80, hR_0_81, hR_0_82, hR_0_83, hR_0_84, hR_0_85, hR_0_86, hR_0_87, hR_0_88, hR_0_89, hR_0_90, hR_1_0, hR_2_0, hR_3_0, hR_4_0, hR_5_0, hR_6_0, hR_7_0, hR_8_0, hR_9_0, hR_10_0, hR_11_0, hR_12_0, hR_13_0, hR_14_0, hR_15_0, hR_16_0, hR_17_0, hR_18_0, hR_19_0, hR_20_0, hR_21_0, hR_22_0, hR_23_0, hR_24_0, hR_25_0, hR_26_0, hR_27_0, r.sc.1, ev_v w.1 w.2.1]
  rfl
/-- two of a set clash within some days -/
def clqB (M : Sto) (Ls : List (List Cl)) (n : Int) (s : Nat) : Bool := anN (fun a => anN (fun b => decide (a < b) && (s.testBit a.toNat && s.testBit b.toNat && cls M Ls a n b)) (M 0 0).toNat) (M 0 0).toNat
theorem clq_iff {n : Int} {s : Nat} : clqB M Ls n s = true ↔ ∃ a b, 0 ≤ a ∧ a < b ∧ b < M 0 0 ∧ s.testBit a.toNat = true ∧ s.testBit b.toNat = true ∧ cls M Ls a n b = true := by
  unfold clqB
  rw [anN_iff]
  constructor
  · rintro ⟨a, a0, a1, q⟩
    obtain ⟨b, b0, b1, q2⟩ := (anN_iff _ _).mp q
    simp only [Bool.and_eq_true, decide_eq_true_eq] at q2
    exact ⟨a, b, a0, q2.1, by omega, q2.2.1.1, q2.2.1.2, q2.2.2⟩
  · rintro ⟨a, b, a0, ab, bp, h1, h2, o⟩
    exact ⟨a, a0, by omega, (anN_iff _ _).mpr ⟨b, by omega, by omega, by rw [decide_eq_true ab, h1, h2, o]; rfl⟩⟩
theorem C_everAtOdds {n : Int} {s : Nat} {m : Nat} (hm : 2 ≤ m) (r : RepC σ M Ls) (hl : lkS M Ls σ n) (hs : s < 64) (hQ : ∀ x, (x = 0 ↔ clqB M Ls n s = false) → Q (some (.inl (x))) shC σ) : Ex m mX5_everAtOdds 0 [(some (.inr (.inr (some (45))))), (some (.inl ((s : Int))))] [] shC σ Q := by
  obtain ⟨d, rfl⟩ : ∃ d, m = d + 2 := ⟨m - 2, by omega⟩
  have w := r.wf.sc
  simp only [sX5_everAtOdds_0, sX5_everAtOdds_1, sX5_everAtOdds_2, sX5_everAtOdds_5, sX5_everAtOdds_6, sX5_everAtOdds_9, sX5_everAtOdds_10, up_s, up_k, up_i, clr_n, clr_i, clr_j, clr_r, catS_n, catS_i, catS_j, catS_r, Option.toList_some, Option.toList_none, List.cons_append, List.nil_append, List.singleton_append, true_and, and_true, ne_eq, not_false_eq_true, not_true_eq_false, reduceCtorEq, if_true, if_false, true_or, or_true, false_or, or_false, Nat.reduceLT, Nat.reduceEqDiff, Nat.reduceAdd, Nat.reduceLeDiff, Int.reduceEq, Int.reduceNe, Int.reduceLT, Int.reduceLE, Int.reduceAdd, Int.reduceNeg, Int.reduceSub, Int.reduceMul, hC_0_0, hC_0_1, hC_0_2, hC_0_3, hC_0_4, hC_0_5, hC_0_6, hC_0_7, hC_0_8, hC_0_9, hC_0_10, hC_0_11, hC_0_12, hC_0_13, hC_0_14, hC_0_15, hC_0_16, hC_1_0, hC_1_1, hC_1_2, hC_1_3, hC_1_4, hC_1_5, hC_2_0, hC_3_0, hC_3_1, hC_3_2, hC_3_3, hC_3_4, hC_3_5, hC_3_6, hC_3_7, hC_3_8, hC_3_9, hC_3_10, hC_3_11, hC_3_12, hC_4_0, hC_5_0, hC_6_0, hC_7_0, hC_8_0, hC_9_0, hC_9_1, hC_9_2, hC_10_0, hC_10_1, hC_10_2, hC_10_3, hC_10_4, hC_10_5, hC_10_6, hC_10_7, hC_10_8, hC_11_0, hC_12_0, hC_13_0, hC_14_0, hC_14_1, hC_14_2, hC_14_3, hC_14_4, hC_14_5, hC_14_6, hC_14_7, hC_14_8, hC_14_9, hC_14_10, hC_14_11, hC_14_12, hC_14_13, hC_14_14, hC_14_15, hC_14_16, hC_14_17, hC_14_18, hC_14_19, hC_14_20, hC_14_21, hC_14_22, hC_14_23, hC_15_0, hC_16_0, hC_17_0, hC_18_0, hC_18_1, hC_18_2, hC_18_3, hC_18_4, hC_19_0, hC_20_0, hC_20_1, hC_20_2, hC_20_3, hC_20_4, hC_20_5, hC_20_6, hC_20_7, hC_20_8, hC_21_0, hC_22_0, hC_23_0, hC_24_0, hC_24_1, hC_24_2, hC_24_3, hC_24_4, hC_24_5, hC_24_6, hC_24_7, hC_24_8, hC_25_0, hC_26_0, hC_27_0, hC_28_0, hC_28_1, hC_28_2, hC_28_3, hC_28_4, hC_28_5, hC_28_6, hC_28_7, hC_28_8, hC_29_0, hC_30_0, hC_31_0, hC_32_0, hC_32_1, hC_32_2, hC_32_3, hC_32_4, hC_32_5, hC_32_6, hC_32_7, hC_32_8, hC_33_0, hC_34_0, hC_35_0, hC_36_0, hC_36_1, hC_36_2, hC_36_3, hC_36_4, hC_36_5, hC_36_6, hC_36_7, hC_36_8, hC_37_0, hC_38_0, hC_39_0, hC_39_1, hC_39_2, hC_39_3, hC_39_4, hC_39_5, hC_39_6, hC_39_7, hC_39_8, hC_40_0, hC_41_0, hC_42_0, hC_43_0, hC_44_0, hC_45_0, hC_45_1, hC_45_2, hC_45_3, hC_45_4, hC_45_5, hC_46_0, hC_47_0, hC_47_1, hC_47_2, hC_47_3, hC_47_4, hC_47_5, hC_47_6, hC_47_7, hC_47_8, hC_47_9, hC_47_10, hC_47_11, hC_47_12, hC_47_13, hC_48_0, hC_49_0, hC_50_0, hC_51_0, hC_52_0, hC_52_1, hC_52_2, hC_52_3, hC_52_4, hC_52_5, hC_52_6, hC_52_7, hC_52_8, hC_52_9, hC_52_10, hC_52_11, hC_52_12, hC_52_13, hC_53_0, hC_54_0, hC_55_0, hC_56_0, hC_57_0, hC_58_0, hC_58_1, hC_58_2, hC_59_0]
  refine C_pairsOf (n := n) hs ⟨w.1, w.2.1⟩ hl.1 (fun x hx => ?_)
  simp only [sX5_everAtOdds_0, sX5_everAtOdds_1, sX5_everAtOdds_2, sX5_everAtOdds_5, sX5_everAtOdds_6, sX5_everAtOdds_9, sX5_everAtOdds_10, up_s, up_k, up_i, clr_n, clr_i, clr_j, clr_r, catS_n, catS_i, catS_j, catS_r, Option.toList_some, Option.toList_none, List.cons_append, List.nil_append, List.singleton_append, true_and, and_true, ne_eq, not_false_eq_true, not_true_eq_false, reduceCtorEq, if_true, if_false, true_or, or_true, false_or, or_false, Nat.reduceLT, Nat.reduceEqDiff, Nat.reduceAdd, Nat.reduceLeDiff, Int.reduceEq, Int.reduceNe, Int.reduceLT, Int.reduceLE, Int.reduceAdd, Int.reduceNeg, Int.reduceSub, Int.reduceMul, hC_0_0, hC_0_1, hC_0_2, hC_0_3, hC_0_4, hC_0_5, hC_0_6, hC_0_7, hC_0_8, hC_0_9, hC_0_10, hC_0_11, hC_0_12, hC_0_13, hC_0_14, hC_0_15, hC_0_16, hC_1_0, hC_1_1, hC_1_2, hC_1_3, hC_1_4, hC_1_5, hC_2_0, hC_3_0, hC_3_1, hC_3_2, hC_3_3, hC_3_4, hC_3_5, hC_3_6, hC_3_7, hC_3_8, hC_3_9, hC_3_10, hC_3_11, hC_3_12, hC_4_0, hC_5_0, hC_6_0, hC_7_0, hC_8_0, hC_9_0, hC_9_1, hC_9_2, hC_10_0, hC_10_1, hC_10_2, hC_10_3, hC_10_4, hC_10_5, hC_10_6, hC_10_7, hC_10_8, hC_11_0, hC_12_0, hC_13_0, hC_14_0, hC_14_1, hC_14_2, hC_14_3, hC_14_4, hC_14_5, hC_14_6, hC_14_7, hC_14_8, hC_14_9, hC_14_10, hC_14_11, hC_14_12, hC_14_13, hC_14_14, hC_14_15, hC_14_16, hC_14_17, hC_14_18, hC_14_19, hC_14_20, hC_14_21, hC_14_22, hC_14_23, hC_15_0, hC_16_0, hC_17_0, hC_18_0, hC_18_1, hC_18_2, hC_18_3, hC_18_4, hC_19_0, hC_20_0, hC_20_1, hC_20_2, hC_20_3, hC_20_4, hC_20_5, hC_20_6, hC_20_7, hC_20_8, hC_21_0, hC_22_0, hC_23_0, hC_24_0, hC_24_1, hC_24_2, hC_24_3, hC_24_4, hC_24_5, hC_24_6, hC_24_7, hC_24_8, hC_25_0, hC_26_0, hC_27_0, hC_28_0, hC_28_1, hC_28_2, hC_28_3, hC_28_4, hC_28_5, hC_28_6, hC_28_7, hC_28_8, hC_29_0, hC_30_0, hC_31_0, hC_32_0, hC_32_1, hC_32_2, hC_32_3, hC_32_4, hC_32_5, hC_32_6, hC_32_7, hC_32_8, hC_33_0, hC_34_0, hC_35_0, hC_36_0, hC_36_1, hC_36_2, hC_36_3, hC_36_4, hC_36_5, hC_36_6, hC_36_7, hC_36_8, hC_37_0, hC_38_0, hC_39_0, hC_39_1, hC_39_2, hC_39_3, hC_39_4, hC_39_5, hC_39_6, hC_39_7, hC_39_8, hC_40_0, hC_41_0, hC_42_0, hC_43_0, hC_44_0, hC_45_0, hC_45_1, hC_45_2, hC_45_3, hC_45_4, hC_45_5, hC_46_0, hC_47_0, hC_47_1, hC_47_2, hC_47_3, hC_47_4, hC_47_5, hC_47_6, hC_47_7, hC_47_8, hC_47_9, hC_47_10, hC_47_11, hC_47_12, hC_47_13, hC_48_0, hC_49_0, hC_50_0, hC_51_0, hC_52_0, hC_52_1, hC_52_2, hC_52_3, hC_52_4, hC_52_5, hC_52_6, hC_52_7, hC_52_8, hC_52_9, hC_52_10, hC_52_11, hC_52_12, hC_52_13, hC_53_0, hC_54_0, hC_55_0, hC_56_0, hC_57_0, hC_58_0, hC_58_1, hC_58_2, hC_59_0]
  refine hQ _ ?_
  rw [(hx.and hl.2.2.2).zero]
  constructor
  · intro q
    rw [Bool.eq_false_iff]
    intro z
    obtain ⟨a, b, a0, ab, bp, h1, h2, o⟩ := clq_iff.mp z
    have := q a b ⟨a0, ab, by omega⟩
    try dsimp only at this
    unfold psF at this
    rw [decide_eq_true bp, h1, h2, o] at this
    cases this
  · intro q a b p
    rw [Bool.eq_false_iff]
    intro z
    simp only [psF, Bool.and_eq_true, decide_eq_true_eq] at z
    have := clq_iff.mpr ⟨a, b, p.1, p.2.1, z.1.1, z.1.2.1, z.1.2.2, z.2.2⟩
    rw [q] at this
    cases this
/-- one of a set has no foe in it -/
def nfB (M : Sto) (Ls : List (List Cl)) (n : Int) (s : Nat) (p : Int) : Bool := s.testBit p.toNat && decide (¬ zand (s : Int) (agN M Ls n p) = 0)
theorem nf_iff {n p : Int} {s : Nat} (w : wfM M Ls) (hs : s < 64) : zand (s : Int) (agN M Ls n p) = 0 ↔ ∀ v, 0 ≤ v → v < M 0 0 → ¬ (s.testBit v.toNat = true ∧ ¬ v = p ∧ cls M Ls p n v = true) := by
  have u := w.sc
  have pa := (peI_n hs).and (se_st (f := agF M Ls n p) u.1 u.2.1)
  rw [show (seN (agF M Ls n p) (M 0 0).toNat : Nat) = agN M Ls n p from rfl] at pa
  rw [pa.zero]
  constructor
  · rintro q v v0 v1 ⟨h1, h2, h3⟩
    have := q v v0 (by omega)
    unfold agF at this
    rw [h1, decide_eq_true v1, decide_eq_true h2, h3] at this
    cases this
  · intro q v v0 v1
    rw [Bool.eq_false_iff]
    intro z
    simp only [agF, Bool.and_eq_true, decide_eq_true_eq] at z
    exact q v v0 z.2.1 ⟨z.1, z.2.2.1, z.2.2.2⟩
theorem nf_clq {n : Int} {s : Nat} (w : wfM M Ls) (hs : s < 64) : anN (nfB M Ls n s) (M 0 0).toNat = clqB M Ls n s := by
  have u := w.sc
  rw [Bool.eq_iff_iff, anN_iff, clq_iff]
  constructor
  · rintro ⟨p, p0, p1, q⟩
    unfold nfB at q
    rw [Bool.and_eq_true, decide_eq_true_eq] at q
    have : ∃ v, 0 ≤ v ∧ v < M 0 0 ∧ s.testBit v.toNat = true ∧ ¬ v = p ∧ cls M Ls p n v = true := by
      refine Classical.byContradiction (fun h => q.2 ((nf_iff w hs).mpr (fun v v0 v1 z => h ⟨v, v0, v1, z⟩)))
    obtain ⟨v, v0, v1, h1, h2, h3⟩ := this
    by_cases c : p < v
    · exact ⟨p, v, p0, c, v1, q.1, h1, h3⟩
    · exact ⟨v, p, v0, by omega, by omega, h1, q.1, by rw [cls_comm]; exact h3⟩
  · rintro ⟨a, b, a0, ab, bp, h1, h2, o⟩
    refine ⟨a, a0, by omega, ?_⟩
    unfold nfB
    rw [h1, Bool.true_and]
    exact decide_eq_true (fun z => (nf_iff w hs).mp z b (by omega) bp ⟨h2, by omega, o⟩)
end
