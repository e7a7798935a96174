-- a parish that changes
section
variable {d : Nat} {sh : List Kd} {σ : Sto} {Q : Option AV → List Kd → Sto → Prop} {t : Nat} {M : Sto} {Ls : List (List Cl)}
theorem up_ne {τ : Sto} {k k' : Nat} {i i' v : Int} (h : k = k' → i ≠ i') : up τ k' i' v k i = τ k i := by
  unfold up
  rw [if_neg]
  rintro ⟨h1, h2⟩
  exact h h1 h2
theorem lwC.fr {σ σ' : Sto} (hl : lwC σ Ls) (h : ∀ k i, 18 ≤ k → k ≤ 35 → σ' k i = σ k i) : lwC σ' Ls := by
  obtain ⟨h1, h2, h3, h4, h5⟩ := hl
  refine ⟨by rw [h 18 1 (by omega) (by omega)]; exact h1, h2, fun k hk => ?_, by rw [h 18 2 (by omega) (by omega)]; exact h4, by rw [h 18 2 (by omega) (by omega)]; exact h5⟩
  obtain ⟨q1, q2, q3, q4, q5⟩ := h3 k hk
  exact ⟨by rw [h _ 1 (by omega) (by omega)]; exact q1, q2, q3.fr (fun i => h _ i (by omega) (by omega)), q4, by rw [h _ 4 (by omega) (by omega)]; exact q5⟩
theorem lwR.fr {σ σ' : Sto} (hl : lwR σ Ls) (h : ∀ k i, 2 ≤ k → k ≤ 4 → σ' k i = σ k i) (h7 : σ' 0 7 = σ 0 7) (h34 : σ' 0 34 = σ 0 34) : lwR σ' Ls := by
  obtain ⟨h1, h2, h3, h4, h5, h6, h8⟩ := hl
  refine ⟨by rw [h7]; exact h1, h2, fun k hk => ?_, by rw [h34]; exact h4, by rw [h34]; exact h5, fun i => by rw [h 2 i (by omega) (by omega)]; exact h6 i, ?_⟩
  · rw [h 3 _ (by omega) (by omega), show (fun i => zand (σ' 2 (160 * k + i)) 255) = (fun i => zand (σ 2 (160 * k + i)) 255) from by funext i; rw [h 2 _ (by omega) (by omega)]]
    exact h3 k hk
  · rw [show leR σ' = leR σ from by funext k; unfold leR; simp only [h 4 _ (by decide) (by decide)]]
    exact h8
theorem RepC.day {v : Int} (r : RepC σ M Ls) (h0 : 0 ≤ v) (h1 : v ≤ 9999) : RepC (up σ 36 0 v) (up M 0 2 v) Ls := by
  unfold RepC wfM at r ⊢
  obtain ⟨⟨⟨u0, u1, u2, u3, u4, u5, u6, u7⟩, w⟩, l, ⟨s1, s2, s3, s4⟩, a⟩ := r
  refine ⟨⟨?_, ?_⟩, l.fr (fun k i h0 h1 => by rw [up_k (by omega)]), ?_⟩ <;> simp only [up_s, up_k, up_i, clr_n, clr_i, clr_j, clr_r, catS_n, catS_i, catS_j, catS_r, Option.toList_some, Option.toList_none, List.cons_append, List.nil_append, List.singleton_append, true_and, and_true, ne_eq, not_false_eq_true, not_true_eq_false, reduceCtorEq, if_true, if_false, true_or, or_true, false_or, or_false, Nat.reduceLT, Nat.reduceEqDiff, Nat.reduceAdd, Nat.reduceLeDiff, Int.reduceEq, Int.reduceNe, Int.reduceLT, Int.reduceLE, Int.reduceAdd, Int.reduceNeg, Int.reduceSub, Int.reduceMul]
  · exact ⟨u0, u1, u2, u3, u4, h0, h1, u7⟩
  · exact w
  · exact ⟨⟨s1, s2, s4⟩, a⟩
theorem RepR.day {v : Int} (r : RepR t σ M Ls) (h0 : 0 ≤ v) (h1 : v ≤ 9999) : RepR t (up σ 0 33 v) (up M 0 2 v) Ls := by
  unfold RepR wfM at r ⊢
  obtain ⟨tt, ⟨⟨u0, u1, u2, u3, u4, u5, u6, u7⟩, w⟩, l, ⟨s1, s2, s3, s4⟩, a⟩ := r
  refine ⟨tt, ⟨?_, ?_⟩, l.fr (fun k i h0 h1 => by rw [up_k (by omega)]) (by simp only [up_s, up_k, up_i, clr_n, clr_i, clr_j, clr_r, catS_n, catS_i, catS_j, catS_r, Option.toList_some, Option.toList_none, List.cons_append, List.nil_append, List.singleton_append, true_and, and_true, ne_eq, not_false_eq_true, not_true_eq_false, reduceCtorEq, if_true, if_false, true_or, or_true, false_or, or_false, Nat.reduceLT, Nat.reduceEqDiff, Nat.reduceAdd, Nat.reduceLeDiff, Int.reduceEq, Int.reduceNe, Int.reduceLT, Int.reduceLE, Int.reduceAdd, Int.reduceNeg, Int.reduceSub, Int.reduceMul]) (by simp only [up_s, up_k, up_i, clr_n, clr_i, clr_j, clr_r, catS_n, catS_i, catS_j, catS_r, Option.toList_some, Option.toList_none, List.cons_append, List.nil_append, List.singleton_append, true_and, and_true, ne_eq, not_false_eq_true, not_true_eq_false, reduceCtorEq, if_true, if_false, true_or, or_true, false_or, or_false, Nat.reduceLT, Nat.reduceEqDiff, Nat.reduceAdd, Nat.reduceLeDiff, Int.reduceEq, Int.reduceNe, Int.reduceLT, Int.reduceLE, Int.reduceAdd, Int.reduceNeg, Int.reduceSub, Int.reduceMul]), ?_⟩ <;> simp only [up_s, up_k, up_i, clr_n, clr_i, clr_j, clr_r, catS_n, catS_i, catS_j, catS_r, Option.toList_some, Option.toList_none, List.cons_append, List.nil_append, List.singleton_append, true_and, and_true, ne_eq, not_false_eq_true, not_true_eq_false, reduceCtorEq, if_true, if_false, true_or, or_true, false_or, or_false, Nat.reduceLT, Nat.reduceEqDiff, Nat.reduceAdd, Nat.reduceLeDiff, Int.reduceEq, Int.reduceNe, Int.reduceLT, Int.reduceLE, Int.reduceAdd, Int.reduceNeg, Int.reduceSub, Int.reduceMul]
  · exact ⟨u0, u1, u2, u3, u4, h0, h1, u7⟩
  · exact w
  · exact ⟨⟨s1, s2, s4⟩, a⟩
theorem RepC.hold {v : Int} (r : RepC σ M Ls) (h0 : -1 ≤ v) (h1 : v < Ls.length) : RepC (up σ 18 2 v) (up M 0 3 v) Ls := by
  unfold RepC wfM at r ⊢
  obtain ⟨⟨⟨u0, u1, u2, u3, u4, u5, u6, u7, u8, u9⟩, w⟩, l, ⟨s1, s2, s3, s4, s5⟩, a⟩ := r
  refine ⟨⟨?_, ?_⟩, ?_, ?_⟩
  · simp only [up_s, up_k, up_i, clr_n, clr_i, clr_j, clr_r, catS_n, catS_i, catS_j, catS_r, Option.toList_some, Option.toList_none, List.cons_append, List.nil_append, List.singleton_append, true_and, and_true, ne_eq, not_false_eq_true, not_true_eq_false, reduceCtorEq, if_true, if_false, true_or, or_true, false_or, or_false, Nat.reduceLT, Nat.reduceEqDiff, Nat.reduceAdd, Nat.reduceLeDiff, Int.reduceEq, Int.reduceNe, Int.reduceLT, Int.reduceLE, Int.reduceAdd, Int.reduceNeg, Int.reduceSub, Int.reduceMul]; exact ⟨u0, u1, u2, u3, u4, u5, u6, h0, h1, u9⟩
  · simp only [up_s, up_k, up_i, clr_n, clr_i, clr_j, clr_r, catS_n, catS_i, catS_j, catS_r, Option.toList_some, Option.toList_none, List.cons_append, List.nil_append, List.singleton_append, true_and, and_true, ne_eq, not_false_eq_true, not_true_eq_false, reduceCtorEq, if_true, if_false, true_or, or_true, false_or, or_false, Nat.reduceLT, Nat.reduceEqDiff, Nat.reduceAdd, Nat.reduceLeDiff, Int.reduceEq, Int.reduceNe, Int.reduceLT, Int.reduceLE, Int.reduceAdd, Int.reduceNeg, Int.reduceSub, Int.reduceMul]; exact w
  · obtain ⟨l1, l2, l3, l4, l5⟩ := l
    refine ⟨by simp only [up_s, up_k, up_i, clr_n, clr_i, clr_j, clr_r, catS_n, catS_i, catS_j, catS_r, Option.toList_some, Option.toList_none, List.cons_append, List.nil_append, List.singleton_append, true_and, and_true, ne_eq, not_false_eq_true, not_true_eq_false, reduceCtorEq, if_true, if_false, true_or, or_true, false_or, or_false, Nat.reduceLT, Nat.reduceEqDiff, Nat.reduceAdd, Nat.reduceLeDiff, Int.reduceEq, Int.reduceNe, Int.reduceLT, Int.reduceLE, Int.reduceAdd, Int.reduceNeg, Int.reduceSub, Int.reduceMul]; exact l1, l2, fun k hk => ?_, by simp only [up_s, up_k, up_i, clr_n, clr_i, clr_j, clr_r, catS_n, catS_i, catS_j, catS_r, Option.toList_some, Option.toList_none, List.cons_append, List.nil_append, List.singleton_append, true_and, and_true, ne_eq, not_false_eq_true, not_true_eq_false, reduceCtorEq, if_true, if_false, true_or, or_true, false_or, or_false, Nat.reduceLT, Nat.reduceEqDiff, Nat.reduceAdd, Nat.reduceLeDiff, Int.reduceEq, Int.reduceNe, Int.reduceLT, Int.reduceLE, Int.reduceAdd, Int.reduceNeg, Int.reduceSub, Int.reduceMul]; exact h0, by simp only [up_s, up_k, up_i, clr_n, clr_i, clr_j, clr_r, catS_n, catS_i, catS_j, catS_r, Option.toList_some, Option.toList_none, List.cons_append, List.nil_append, List.singleton_append, true_and, and_true, ne_eq, not_false_eq_true, not_true_eq_false, reduceCtorEq, if_true, if_false, true_or, or_true, false_or, or_false, Nat.reduceLT, Nat.reduceEqDiff, Nat.reduceAdd, Nat.reduceLeDiff, Int.reduceEq, Int.reduceNe, Int.reduceLT, Int.reduceLE, Int.reduceAdd, Int.reduceNeg, Int.reduceSub, Int.reduceMul]; exact h1⟩
    obtain ⟨q1, q2, q3, q4, q5⟩ := l3 k hk
    exact ⟨by rw [up_k (by omega)]; exact q1, q2, q3.fr (fun i => by rw [up_k (by omega)]), q4, by rw [up_k (by omega)]; exact q5⟩
  · simp only [up_s, up_k, up_i, clr_n, clr_i, clr_j, clr_r, catS_n, catS_i, catS_j, catS_r, Option.toList_some, Option.toList_none, List.cons_append, List.nil_append, List.singleton_append, true_and, and_true, ne_eq, not_false_eq_true, not_true_eq_false, reduceCtorEq, if_true, if_false, true_or, or_true, false_or, or_false, Nat.reduceLT, Nat.reduceEqDiff, Nat.reduceAdd, Nat.reduceLeDiff, Int.reduceEq, Int.reduceNe, Int.reduceLT, Int.reduceLE, Int.reduceAdd, Int.reduceNeg, Int.reduceSub, Int.reduceMul]; exact ⟨⟨s1, s2, s3, s5⟩, a⟩
theorem RepR.hold {v : Int} (r : RepR t σ M Ls) (h0 : -1 ≤ v) (h1 : v < Ls.length) : RepR t (up σ 0 34 v) (up M 0 3 v) Ls := by
  unfold RepR wfM at r ⊢
  obtain ⟨tt, ⟨⟨u0, u1, u2, u3, u4, u5, u6, u7, u8, u9⟩, w⟩, l, ⟨s1, s2, s3, s4, s5⟩, a⟩ := r
  refine ⟨tt, ⟨?_, ?_⟩, ?_, ?_⟩
  · simp only [up_s, up_k, up_i, clr_n, clr_i, clr_j, clr_r, catS_n, catS_i, catS_j, catS_r, Option.toList_some, Option.toList_none, List.cons_append, List.nil_append, List.singleton_append, true_and, and_true, ne_eq, not_false_eq_true, not_true_eq_false, reduceCtorEq, if_true, if_false, true_or, or_true, false_or, or_false, Nat.reduceLT, Nat.reduceEqDiff, Nat.reduceAdd, Nat.reduceLeDiff, Int.reduceEq, Int.reduceNe, Int.reduceLT, Int.reduceLE, Int.reduceAdd, Int.reduceNeg, Int.reduceSub, Int.reduceMul]; exact ⟨u0, u1, u2, u3, u4, u5, u6, h0, h1, u9⟩
  · simp only [up_s, up_k, up_i, clr_n, clr_i, clr_j, clr_r, catS_n, catS_i, catS_j, catS_r, Option.toList_some, Option.toList_none, List.cons_append, List.nil_append, List.singleton_append, true_and, and_true, ne_eq, not_false_eq_true, not_true_eq_false, reduceCtorEq, if_true, if_false, true_or, or_true, false_or, or_false, Nat.reduceLT, Nat.reduceEqDiff, Nat.reduceAdd, Nat.reduceLeDiff, Int.reduceEq, Int.reduceNe, Int.reduceLT, Int.reduceLE, Int.reduceAdd, Int.reduceNeg, Int.reduceSub, Int.reduceMul]; exact w
  · obtain ⟨l1, l2, l3, l4, l5, l6, l7⟩ := l
    refine ⟨by simp only [up_s, up_k, up_i, clr_n, clr_i, clr_j, clr_r, catS_n, catS_i, catS_j, catS_r, Option.toList_some, Option.toList_none, List.cons_append, List.nil_append, List.singleton_append, true_and, and_true, ne_eq, not_false_eq_true, not_true_eq_false, reduceCtorEq, if_true, if_false, true_or, or_true, false_or, or_false, Nat.reduceLT, Nat.reduceEqDiff, Nat.reduceAdd, Nat.reduceLeDiff, Int.reduceEq, Int.reduceNe, Int.reduceLT, Int.reduceLE, Int.reduceAdd, Int.reduceNeg, Int.reduceSub, Int.reduceMul]; exact l1, l2, fun k hk => by simp only [up_s, up_k, up_i, clr_n, clr_i, clr_j, clr_r, catS_n, catS_i, catS_j, catS_r, Option.toList_some, Option.toList_none, List.cons_append, List.nil_append, List.singleton_append, true_and, and_true, ne_eq, not_false_eq_true, not_true_eq_false, reduceCtorEq, if_true, if_false, true_or, or_true, false_or, or_false, Nat.reduceLT, Nat.reduceEqDiff, Nat.reduceAdd, Nat.reduceLeDiff, Int.reduceEq, Int.reduceNe, Int.reduceLT, Int.reduceLE, Int.reduceAdd, Int.reduceNeg, Int.reduceSub, Int.reduceMul]; exact l3 k hk, by simp only [up_s, up_k, up_i, clr_n, clr_i, clr_j, clr_r, catS_n, catS_i, catS_j, catS_r, Option.toList_some, Option.toList_none, List.cons_append, List.nil_append, List.singleton_append, true_and, and_true, ne_eq, not_false_eq_true, not_true_eq_false, reduceCtorEq, if_true, if_false, true_or, or_true, false_or, or_false, Nat.reduceLT, Nat.reduceEqDiff, Nat.reduceAdd, Nat.reduceLeDiff, Int.reduceEq, Int.reduceNe, Int.reduceLT, Int.reduceLE, Int.reduceAdd, Int.reduceNeg, Int.reduceSub, Int.reduceMul]; exact h0, by simp only [up_s, up_k, up_i, clr_n, clr_i, clr_j, clr_r, catS_n, catS_i, catS_j, catS_r, Option.toList_some, Option.toList_none, List.cons_append, List.nil_append, List.singleton_append, true_and, and_true, ne_eq, not_false_eq_true, not_true_eq_false, reduceCtorEq, if_true, if_false, true_or, or_true, false_or, or_false, Nat.reduceLT, Nat.reduceEqDiff, Nat.reduceAdd, Nat.reduceLeDiff, Int.reduceEq, Int.reduceNe, Int.reduceLT, Int.reduceLE, Int.reduceAdd, Int.reduceNeg, Int.reduceSub, Int.reduceMul]; exact h1, by simp only [up_s, up_k, up_i, clr_n, clr_i, clr_j, clr_r, catS_n, catS_i, catS_j, catS_r, Option.toList_some, Option.toList_none, List.cons_append, List.nil_append, List.singleton_append, true_and, and_true, ne_eq, not_false_eq_true, not_true_eq_false, reduceCtorEq, if_true, if_false, true_or, or_true, false_or, or_false, Nat.reduceLT, Nat.reduceEqDiff, Nat.reduceAdd, Nat.reduceLeDiff, Int.reduceEq, Int.reduceNe, Int.reduceLT, Int.reduceLE, Int.reduceAdd, Int.reduceNeg, Int.reduceSub, Int.reduceMul]; exact l6, ?_⟩
    rw [show leR (up σ 0 34 v) = leR σ from by funext k; unfold leR; simp only [up_s, up_k, up_i, clr_n, clr_i, clr_j, clr_r, catS_n, catS_i, catS_j, catS_r, Option.toList_some, Option.toList_none, List.cons_append, List.nil_append, List.singleton_append, true_and, and_true, ne_eq, not_false_eq_true, not_true_eq_false, reduceCtorEq, if_true, if_false, true_or, or_true, false_or, or_false, Nat.reduceLT, Nat.reduceEqDiff, Nat.reduceAdd, Nat.reduceLeDiff, Int.reduceEq, Int.reduceNe, Int.reduceLT, Int.reduceLE, Int.reduceAdd, Int.reduceNeg, Int.reduceSub, Int.reduceMul]]
    exact l7
  · simp only [up_s, up_k, up_i, clr_n, clr_i, clr_j, clr_r, catS_n, catS_i, catS_j, catS_r, Option.toList_some, Option.toList_none, List.cons_append, List.nil_append, List.singleton_append, true_and, and_true, ne_eq, not_false_eq_true, not_true_eq_false, reduceCtorEq, if_true, if_false, true_or, or_true, false_or, or_false, Nat.reduceLT, Nat.reduceEqDiff, Nat.reduceAdd, Nat.reduceLeDiff, Int.reduceEq, Int.reduceNe, Int.reduceLT, Int.reduceLE, Int.reduceAdd, Int.reduceNeg, Int.reduceSub, Int.reduceMul]; exact ⟨⟨s1, s2, s3, s5⟩, a⟩
theorem RepC.move {p h : Int} (r : RepC σ M Ls) (p0 : 0 ≤ p) (p1 : p < M 0 0) (h0 : -1 ≤ h) (h1 : h < M 0 1) : RepC (up σ 38 p h) (up M 2 p h) Ls := by
  unfold RepC wfM at r ⊢
  obtain ⟨⟨u, w1, w⟩, l, s, a1, a⟩ := r
  refine ⟨⟨?_, ?_, ?_⟩, l.fr (fun k i h0 h1 => by rw [up_k (by omega)]), ?_, ?_, ?_⟩ <;> simp only [up_s, up_k, up_i, clr_n, clr_i, clr_j, clr_r, catS_n, catS_i, catS_j, catS_r, Option.toList_some, Option.toList_none, List.cons_append, List.nil_append, List.singleton_append, true_and, and_true, ne_eq, not_false_eq_true, not_true_eq_false, reduceCtorEq, if_true, if_false, true_or, or_true, false_or, or_false, Nat.reduceLT, Nat.reduceEqDiff, Nat.reduceAdd, Nat.reduceLeDiff, Int.reduceEq, Int.reduceNe, Int.reduceLT, Int.reduceLE, Int.reduceAdd, Int.reduceNeg, Int.reduceSub, Int.reduceMul]
  · exact u
  · intro q q0 q1
    by_cases c : q = p
    · subst c; rw [up_s]; exact ⟨(w1 q q0 q1).1, h0, h1⟩
    · rw [up_i c]; exact w1 q q0 q1
  · exact w
  · exact s
  · intro q q0 q1
    by_cases c : q = p
    · subst c; rw [up_s, up_s]; exact ⟨(a1 q q0 q1).1, rfl⟩
    · rw [up_i c, up_i c]; exact a1 q q0 q1
  · exact a
theorem RepR.move {p h : Int} (r : RepR t σ M Ls) (p0 : 0 ≤ p) (p1 : p < M 0 0) (h0 : -1 ≤ h) (h1 : h < M 0 1) : RepR t (up σ 11 p h) (up M 2 p h) Ls := by
  unfold RepR wfM at r ⊢
  obtain ⟨tt, ⟨u, w1, w⟩, l, s, a1, a⟩ := r
  refine ⟨tt, ⟨?_, ?_, ?_⟩, l.fr (fun k i h0 h1 => by rw [up_k (by omega)]) (by simp only [up_s, up_k, up_i, clr_n, clr_i, clr_j, clr_r, catS_n, catS_i, catS_j, catS_r, Option.toList_some, Option.toList_none, List.cons_append, List.nil_append, List.singleton_append, true_and, and_true, ne_eq, not_false_eq_true, not_true_eq_false, reduceCtorEq, if_true, if_false, true_or, or_true, false_or, or_false, Nat.reduceLT, Nat.reduceEqDiff, Nat.reduceAdd, Nat.reduceLeDiff, Int.reduceEq, Int.reduceNe, Int.reduceLT, Int.reduceLE, Int.reduceAdd, Int.reduceNeg, Int.reduceSub, Int.reduceMul]) (by simp only [up_s, up_k, up_i, clr_n, clr_i, clr_j, clr_r, catS_n, catS_i, catS_j, catS_r, Option.toList_some, Option.toList_none, List.cons_append, List.nil_append, List.singleton_append, true_and, and_true, ne_eq, not_false_eq_true, not_true_eq_false, reduceCtorEq, if_true, if_false, true_or, or_true, false_or, or_false, Nat.reduceLT, Nat.reduceEqDiff, Nat.reduceAdd, Nat.reduceLeDiff, Int.reduceEq, Int.reduceNe, Int.reduceLT, Int.reduceLE, Int.reduceAdd, Int.reduceNeg, Int.reduceSub, Int.reduceMul]), ?_, ?_, ?_⟩ <;> simp only [up_s, up_k, up_i, clr_n, clr_i, clr_j, clr_r, catS_n, catS_i, catS_j, catS_r, Option.toList_some, Option.toList_none, List.cons_append, List.nil_append, List.singleton_append, true_and, and_true, ne_eq, not_false_eq_true, not_true_eq_false, reduceCtorEq, if_true, if_false, true_or, or_true, false_or, or_false, Nat.reduceLT, Nat.reduceEqDiff, Nat.reduceAdd, Nat.reduceLeDiff, Int.reduceEq, Int.reduceNe, Int.reduceLT, Int.reduceLE, Int.reduceAdd, Int.reduceNeg, Int.reduceSub, Int.reduceMul]
  · exact u
  · intro q q0 q1
    by_cases c : q = p
    · subst c; rw [up_s]; exact ⟨(w1 q q0 q1).1, h0, h1⟩
    · rw [up_i c]; exact w1 q q0 q1
  · exact w
  · exact s
  · intro q q0 q1
    by_cases c : q = p
    · subst c; rw [up_s, up_s]; exact ⟨(a1 q q0 q1).1, rfl⟩
    · rw [up_i c, up_i c]; exact a1 q q0 q1
  · exact a
theorem RepC.birth {p v : Int} (r : RepC σ M Ls) (hv : okB v) : RepC (up σ 37 p v) (up M 1 p v) Ls := by
  unfold RepC wfM at r ⊢
  obtain ⟨⟨u, w1, w⟩, l, s, a1, a⟩ := r
  refine ⟨⟨?_, ?_, ?_⟩, l.fr (fun k i h0 h1 => by rw [up_k (by omega)]), ?_, ?_, ?_⟩ <;> simp only [up_s, up_k, up_i, clr_n, clr_i, clr_j, clr_r, catS_n, catS_i, catS_j, catS_r, Option.toList_some, Option.toList_none, List.cons_append, List.nil_append, List.singleton_append, true_and, and_true, ne_eq, not_false_eq_true, not_true_eq_false, reduceCtorEq, if_true, if_false, true_or, or_true, false_or, or_false, Nat.reduceLT, Nat.reduceEqDiff, Nat.reduceAdd, Nat.reduceLeDiff, Int.reduceEq, Int.reduceNe, Int.reduceLT, Int.reduceLE, Int.reduceAdd, Int.reduceNeg, Int.reduceSub, Int.reduceMul]
  · exact u
  · intro q q0 q1
    by_cases c : q = p
    · subst c; rw [up_s]; exact ⟨hv, (w1 q q0 q1).2⟩
    · rw [up_i c]; exact w1 q q0 q1
  · exact w
  · exact s
  · intro q q0 q1
    by_cases c : q = p
    · subst c; rw [up_s, up_s]; exact ⟨rfl, (a1 q q0 q1).2⟩
    · rw [up_i c, up_i c]; exact a1 q q0 q1
  · exact a
theorem RepR.birth {p v : Int} (r : RepR t σ M Ls) (hv : okB v) : RepR t (up σ 10 p v) (up M 1 p v) Ls := by
  unfold RepR wfM at r ⊢
  obtain ⟨tt, ⟨u, w1, w⟩, l, s, a1, a⟩ := r
  refine ⟨tt, ⟨?_, ?_, ?_⟩, l.fr (fun k i h0 h1 => by rw [up_k (by omega)]) (by simp only [up_s, up_k, up_i, clr_n, clr_i, clr_j, clr_r, catS_n, catS_i, catS_j, catS_r, Option.toList_some, Option.toList_none, List.cons_append, List.nil_append, List.singleton_append, true_and, and_true, ne_eq, not_false_eq_true, not_true_eq_false, reduceCtorEq, if_true, if_false, true_or, or_true, false_or, or_false, Nat.reduceLT, Nat.reduceEqDiff, Nat.reduceAdd, Nat.reduceLeDiff, Int.reduceEq, Int.reduceNe, Int.reduceLT, Int.reduceLE, Int.reduceAdd, Int.reduceNeg, Int.reduceSub, Int.reduceMul]) (by simp only [up_s, up_k, up_i, clr_n, clr_i, clr_j, clr_r, catS_n, catS_i, catS_j, catS_r, Option.toList_some, Option.toList_none, List.cons_append, List.nil_append, List.singleton_append, true_and, and_true, ne_eq, not_false_eq_true, not_true_eq_false, reduceCtorEq, if_true, if_false, true_or, or_true, false_or, or_false, Nat.reduceLT, Nat.reduceEqDiff, Nat.reduceAdd, Nat.reduceLeDiff, Int.reduceEq, Int.reduceNe, Int.reduceLT, Int.reduceLE, Int.reduceAdd, Int.reduceNeg, Int.reduceSub, Int.reduceMul]), ?_, ?_, ?_⟩ <;> simp only [up_s, up_k, up_i, clr_n, clr_i, clr_j, clr_r, catS_n, catS_i, catS_j, catS_r, Option.toList_some, Option.toList_none, List.cons_append, List.nil_append, List.singleton_append, true_and, and_true, ne_eq, not_false_eq_true, not_true_eq_false, reduceCtorEq, if_true, if_false, true_or, or_true, false_or, or_false, Nat.reduceLT, Nat.reduceEqDiff, Nat.reduceAdd, Nat.reduceLeDiff, Int.reduceEq, Int.reduceNe, Int.reduceLT, Int.reduceLE, Int.reduceAdd, Int.reduceNeg, Int.reduceSub, Int.reduceMul]
  · exact u
  · intro q q0 q1
    by_cases c : q = p
    · subst c; rw [up_s]; exact ⟨hv, (w1 q q0 q1).2⟩
    · rw [up_i c]; exact w1 q q0 q1
  · exact w
  · exact s
  · intro q q0 q1
    by_cases c : q = p
    · subst c; rw [up_s, up_s]; exact ⟨rfl, (a1 q q0 q1).2⟩
    · rw [up_i c, up_i c]; exact a1 q q0 q1
  · exact a
theorem RepC.moved {v : Int} (r : RepC σ M Ls) : RepC (up σ 36 1 v) (up M 0 4 v) Ls := by
  unfold RepC wfM at r ⊢
  obtain ⟨w, l, ⟨s1, s2, s3, s4, s5, s6⟩, a⟩ := r
  refine ⟨?_, l.fr (fun k i h0 h1 => by rw [up_k (by omega)]), ?_⟩ <;> simp only [up_s, up_k, up_i, clr_n, clr_i, clr_j, clr_r, catS_n, catS_i, catS_j, catS_r, Option.toList_some, Option.toList_none, List.cons_append, List.nil_append, List.singleton_append, true_and, and_true, ne_eq, not_false_eq_true, not_true_eq_false, reduceCtorEq, if_true, if_false, true_or, or_true, false_or, or_false, Nat.reduceLT, Nat.reduceEqDiff, Nat.reduceAdd, Nat.reduceLeDiff, Int.reduceEq, Int.reduceNe, Int.reduceLT, Int.reduceLE, Int.reduceAdd, Int.reduceNeg, Int.reduceSub, Int.reduceMul]
  · exact w
  · exact ⟨⟨s1, s2, s3, s4, s6⟩, a⟩
theorem RepR.moved {v : Int} (r : RepR t σ M Ls) : RepR t (up σ 0 35 v) (up M 0 4 v) Ls := by
  unfold RepR wfM at r ⊢
  obtain ⟨tt, w, l, ⟨s1, s2, s3, s4, s5, s6⟩, a⟩ := r
  refine ⟨tt, ?_, l.fr (fun k i h0 h1 => by rw [up_k (by omega)]) (by simp only [up_s, up_k, up_i, clr_n, clr_i, clr_j, clr_r, catS_n, catS_i, catS_j, catS_r, Option.toList_some, Option.toList_none, List.cons_append, List.nil_append, List.singleton_append, true_and, and_true, ne_eq, not_false_eq_true, not_true_eq_false, reduceCtorEq, if_true, if_false, true_or, or_true, false_or, or_false, Nat.reduceLT, Nat.reduceEqDiff, Nat.reduceAdd, Nat.reduceLeDiff, Int.reduceEq, Int.reduceNe, Int.reduceLT, Int.reduceLE, Int.reduceAdd, Int.reduceNeg, Int.reduceSub, Int.reduceMul]) (by simp only [up_s, up_k, up_i, clr_n, clr_i, clr_j, clr_r, catS_n, catS_i, catS_j, catS_r, Option.toList_some, Option.toList_none, List.cons_append, List.nil_append, List.singleton_append, true_and, and_true, ne_eq, not_false_eq_true, not_true_eq_false, reduceCtorEq, if_true, if_false, true_or, or_true, false_or, or_false, Nat.reduceLT, Nat.reduceEqDiff, Nat.reduceAdd, Nat.reduceLeDiff, Int.reduceEq, Int.reduceNe, Int.reduceLT, Int.reduceLE, Int.reduceAdd, Int.reduceNeg, Int.reduceSub, Int.reduceMul]), ?_⟩ <;> simp only [up_s, up_k, up_i, clr_n, clr_i, clr_j, clr_r, catS_n, catS_i, catS_j, catS_r, Option.toList_some, Option.toList_none, List.cons_append, List.nil_append, List.singleton_append, true_and, and_true, ne_eq, not_false_eq_true, not_true_eq_false, reduceCtorEq, if_true, if_false, true_or, or_true, false_or, or_false, Nat.reduceLT, Nat.reduceEqDiff, Nat.reduceAdd, Nat.reduceLeDiff, Int.reduceEq, Int.reduceNe, Int.reduceLT, Int.reduceLE, Int.reduceAdd, Int.reduceNeg, Int.reduceSub, Int.reduceMul]
  · exact w
  · exact ⟨⟨s1, s2, s3, s4, s6⟩, a⟩
theorem RepC.died {v : Int} (r : RepC σ M Ls) : RepC (up σ 36 2 v) (up M 0 5 v) Ls := by
  unfold RepC wfM at r ⊢
  obtain ⟨w, l, ⟨s1, s2, s3, s4, s5, s6, s7⟩, a⟩ := r
  refine ⟨?_, l.fr (fun k i h0 h1 => by rw [up_k (by omega)]), ?_⟩ <;> simp only [up_s, up_k, up_i, clr_n, clr_i, clr_j, clr_r, catS_n, catS_i, catS_j, catS_r, Option.toList_some, Option.toList_none, List.cons_append, List.nil_append, List.singleton_append, true_and, and_true, ne_eq, not_false_eq_true, not_true_eq_false, reduceCtorEq, if_true, if_false, true_or, or_true, false_or, or_false, Nat.reduceLT, Nat.reduceEqDiff, Nat.reduceAdd, Nat.reduceLeDiff, Int.reduceEq, Int.reduceNe, Int.reduceLT, Int.reduceLE, Int.reduceAdd, Int.reduceNeg, Int.reduceSub, Int.reduceMul]
  · exact w
  · exact ⟨⟨s1, s2, s3, s4, s5, s7⟩, a⟩
theorem RepR.died {v : Int} (r : RepR t σ M Ls) : RepR t (up σ 0 36 v) (up M 0 5 v) Ls := by
  unfold RepR wfM at r ⊢
  obtain ⟨tt, w, l, ⟨s1, s2, s3, s4, s5, s6, s7⟩, a⟩ := r
  refine ⟨tt, ?_, l.fr (fun k i h0 h1 => by rw [up_k (by omega)]) (by simp only [up_s, up_k, up_i, clr_n, clr_i, clr_j, clr_r, catS_n, catS_i, catS_j, catS_r, Option.toList_some, Option.toList_none, List.cons_append, List.nil_append, List.singleton_append, true_and, and_true, ne_eq, not_false_eq_true, not_true_eq_false, reduceCtorEq, if_true, if_false, true_or, or_true, false_or, or_false, Nat.reduceLT, Nat.reduceEqDiff, Nat.reduceAdd, Nat.reduceLeDiff, Int.reduceEq, Int.reduceNe, Int.reduceLT, Int.reduceLE, Int.reduceAdd, Int.reduceNeg, Int.reduceSub, Int.reduceMul]) (by simp only [up_s, up_k, up_i, clr_n, clr_i, clr_j, clr_r, catS_n, catS_i, catS_j, catS_r, Option.toList_some, Option.toList_none, List.cons_append, List.nil_append, List.singleton_append, true_and, and_true, ne_eq, not_false_eq_true, not_true_eq_false, reduceCtorEq, if_true, if_false, true_or, or_true, false_or, or_false, Nat.reduceLT, Nat.reduceEqDiff, Nat.reduceAdd, Nat.reduceLeDiff, Int.reduceEq, Int.reduceNe, Int.reduceLT, Int.reduceLE, Int.reduceAdd, Int.reduceNeg, Int.reduceSub, Int.reduceMul]), ?_⟩ <;> simp only [up_s, up_k, up_i, clr_n, clr_i, clr_j, clr_r, catS_n, catS_i, catS_j, catS_r, Option.toList_some, Option.toList_none, List.cons_append, List.nil_append, List.singleton_append, true_and, and_true, ne_eq, not_false_eq_true, not_true_eq_false, reduceCtorEq, if_true, if_false, true_or, or_true, false_or, or_false, Nat.reduceLT, Nat.reduceEqDiff, Nat.reduceAdd, Nat.reduceLeDiff, Int.reduceEq, Int.reduceNe, Int.reduceLT, Int.reduceLE, Int.reduceAdd, Int.reduceNeg, Int.reduceSub, Int.reduceMul]
  · exact w
  · exact ⟨⟨s1, s2, s3, s4, s5, s7⟩, a⟩
theorem RepC.drew {v : Int} (r : RepC σ M Ls) : RepC (up σ 36 3 v) (up M 0 6 v) Ls := by
  unfold RepC wfM at r ⊢
  obtain ⟨w, l, ⟨s1, s2, s3, s4, s5, s6, s7, s8⟩, a⟩ := r
  refine ⟨?_, l.fr (fun k i h0 h1 => by rw [up_k (by omega)]), ?_⟩ <;> simp only [up_s, up_k, up_i, clr_n, clr_i, clr_j, clr_r, catS_n, catS_i, catS_j, catS_r, Option.toList_some, Option.toList_none, List.cons_append, List.nil_append, List.singleton_append, true_and, and_true, ne_eq, not_false_eq_true, not_true_eq_false, reduceCtorEq, if_true, if_false, true_or, or_true, false_or, or_false, Nat.reduceLT, Nat.reduceEqDiff, Nat.reduceAdd, Nat.reduceLeDiff, Int.reduceEq, Int.reduceNe, Int.reduceLT, Int.reduceLE, Int.reduceAdd, Int.reduceNeg, Int.reduceSub, Int.reduceMul]
  · exact w
  · exact ⟨⟨s1, s2, s3, s4, s5, s6, s8⟩, a⟩
theorem RepR.drew {v : Int} (r : RepR t σ M Ls) : RepR t (up σ 0 52 v) (up M 0 6 v) Ls := by
  unfold RepR wfM at r ⊢
  obtain ⟨tt, w, l, ⟨s1, s2, s3, s4, s5, s6, s7, s8⟩, a⟩ := r
  refine ⟨tt, ?_, l.fr (fun k i h0 h1 => by rw [up_k (by omega)]) (by simp only [up_s, up_k, up_i, clr_n, clr_i, clr_j, clr_r, catS_n, catS_i, catS_j, catS_r, Option.toList_some, Option.toList_none, List.cons_append, List.nil_append, List.singleton_append, true_and, and_true, ne_eq, not_false_eq_true, not_true_eq_false, reduceCtorEq, if_true, if_false, true_or, or_true, false_or, or_false, Nat.reduceLT, Nat.reduceEqDiff, Nat.reduceAdd, Nat.reduceLeDiff, Int.reduceEq, Int.reduceNe, Int.reduceLT, Int.reduceLE, Int.reduceAdd, Int.reduceNeg, Int.reduceSub, Int.reduceMul]) (by simp only [up_s, up_k, up_i, clr_n, clr_i, clr_j, clr_r, catS_n, catS_i, catS_j, catS_r, Option.toList_some, Option.toList_none, List.cons_append, List.nil_append, List.singleton_append, true_and, and_true, ne_eq, not_false_eq_true, not_true_eq_false, reduceCtorEq, if_true, if_false, true_or, or_true, false_or, or_false, Nat.reduceLT, Nat.reduceEqDiff, Nat.reduceAdd, Nat.reduceLeDiff, Int.reduceEq, Int.reduceNe, Int.reduceLT, Int.reduceLE, Int.reduceAdd, Int.reduceNeg, Int.reduceSub, Int.reduceMul]), ?_⟩ <;> simp only [up_s, up_k, up_i, clr_n, clr_i, clr_j, clr_r, catS_n, catS_i, catS_j, catS_r, Option.toList_some, Option.toList_none, List.cons_append, List.nil_append, List.singleton_append, true_and, and_true, ne_eq, not_false_eq_true, not_true_eq_false, reduceCtorEq, if_true, if_false, true_or, or_true, false_or, or_false, Nat.reduceLT, Nat.reduceEqDiff, Nat.reduceAdd, Nat.reduceLeDiff, Int.reduceEq, Int.reduceNe, Int.reduceLT, Int.reduceLE, Int.reduceAdd, Int.reduceNeg, Int.reduceSub, Int.reduceMul]
  · exact w
  · exact ⟨⟨s1, s2, s3, s4, s5, s6, s8⟩, a⟩
theorem RepC.rsk {v : Int} (r : RepC σ M Ls) (h0 : 0 ≤ v) (h1 : v ≤ 100) : RepC (up σ 14 9 v) (up M 0 7 v) Ls := by
  unfold RepC wfM at r ⊢
  obtain ⟨⟨⟨u0, u1, u2, u3, u4, u5, u6, u7, u8, u9, u10, u11⟩, w⟩, l, ⟨s1, s2, s3, s4, s5, s6, s7, s8, s9⟩, a⟩ := r
  refine ⟨⟨?_, ?_⟩, l.fr (fun k i h0 h1 => by rw [up_k (by omega)]), ?_⟩ <;> simp only [up_s, up_k, up_i, clr_n, clr_i, clr_j, clr_r, catS_n, catS_i, catS_j, catS_r, Option.toList_some, Option.toList_none, List.cons_append, List.nil_append, List.singleton_append, true_and, and_true, ne_eq, not_false_eq_true, not_true_eq_false, reduceCtorEq, if_true, if_false, true_or, or_true, false_or, or_false, Nat.reduceLT, Nat.reduceEqDiff, Nat.reduceAdd, Nat.reduceLeDiff, Int.reduceEq, Int.reduceNe, Int.reduceLT, Int.reduceLE, Int.reduceAdd, Int.reduceNeg, Int.reduceSub, Int.reduceMul]
  · exact ⟨u0, u1, u2, u3, u4, u5, u6, u7, u8, h0, h1, u11⟩
  · exact w
  · exact ⟨⟨s1, s2, s3, s4, s5, s6, s7, s9⟩, a⟩
theorem RepR.rsk {v : Int} (r : RepR t σ M Ls) (h0 : 0 ≤ v) (h1 : v ≤ 100) : RepR t (up σ 0 51 v) (up M 0 7 v) Ls := by
  unfold RepR wfM at r ⊢
  obtain ⟨tt, ⟨⟨u0, u1, u2, u3, u4, u5, u6, u7, u8, u9, u10, u11⟩, w⟩, l, ⟨s1, s2, s3, s4, s5, s6, s7, s8, s9⟩, a⟩ := r
  refine ⟨tt, ⟨?_, ?_⟩, l.fr (fun k i h0 h1 => by rw [up_k (by omega)]) (by simp only [up_s, up_k, up_i, clr_n, clr_i, clr_j, clr_r, catS_n, catS_i, catS_j, catS_r, Option.toList_some, Option.toList_none, List.cons_append, List.nil_append, List.singleton_append, true_and, and_true, ne_eq, not_false_eq_true, not_true_eq_false, reduceCtorEq, if_true, if_false, true_or, or_true, false_or, or_false, Nat.reduceLT, Nat.reduceEqDiff, Nat.reduceAdd, Nat.reduceLeDiff, Int.reduceEq, Int.reduceNe, Int.reduceLT, Int.reduceLE, Int.reduceAdd, Int.reduceNeg, Int.reduceSub, Int.reduceMul]) (by simp only [up_s, up_k, up_i, clr_n, clr_i, clr_j, clr_r, catS_n, catS_i, catS_j, catS_r, Option.toList_some, Option.toList_none, List.cons_append, List.nil_append, List.singleton_append, true_and, and_true, ne_eq, not_false_eq_true, not_true_eq_false, reduceCtorEq, if_true, if_false, true_or, or_true, false_or, or_false, Nat.reduceLT, Nat.reduceEqDiff, Nat.reduceAdd, Nat.reduceLeDiff, Int.reduceEq, Int.reduceNe, Int.reduceLT, Int.reduceLE, Int.reduceAdd, Int.reduceNeg, Int.reduceSub, Int.reduceMul]), ?_⟩ <;> simp only [up_s, up_k, up_i, clr_n, clr_i, clr_j, clr_r, catS_n, catS_i, catS_j, catS_r, Option.toList_some, Option.toList_none, List.cons_append, List.nil_append, List.singleton_append, true_and, and_true, ne_eq, not_false_eq_true, not_true_eq_false, reduceCtorEq, if_true, if_false, true_or, or_true, false_or, or_false, Nat.reduceLT, Nat.reduceEqDiff, Nat.reduceAdd, Nat.reduceLeDiff, Int.reduceEq, Int.reduceNe, Int.reduceLT, Int.reduceLE, Int.reduceAdd, Int.reduceNeg, Int.reduceSub, Int.reduceMul]
  · exact ⟨u0, u1, u2, u3, u4, u5, u6, u7, u8, h0, h1, u11⟩
  · exact w
  · exact ⟨⟨s1, s2, s3, s4, s5, s6, s7, s9⟩, a⟩
theorem RepC.worth {p h v : Int} (r : RepC σ M Ls) (h0 : 0 ≤ v) (h1 : v ≤ 99) : RepC (up σ 17 (4 * p + h) v) (up M 5 (4 * p + h) v) Ls := by
  unfold RepC wfM at r ⊢
  obtain ⟨⟨u, w1, w2, w3, w⟩, l, s, a1, a2, a3, a⟩ := r
  refine ⟨⟨?_, ?_, ?_, ?_, ?_⟩, l.fr (fun k i h0 h1 => by rw [up_k (by omega)]), ?_, ?_, ?_, ?_, ?_⟩ <;> simp only [up_s, up_k, up_i, clr_n, clr_i, clr_j, clr_r, catS_n, catS_i, catS_j, catS_r, Option.toList_some, Option.toList_none, List.cons_append, List.nil_append, List.singleton_append, true_and, and_true, ne_eq, not_false_eq_true, not_true_eq_false, reduceCtorEq, if_true, if_false, true_or, or_true, false_or, or_false, Nat.reduceLT, Nat.reduceEqDiff, Nat.reduceAdd, Nat.reduceLeDiff, Int.reduceEq, Int.reduceNe, Int.reduceLT, Int.reduceLE, Int.reduceAdd, Int.reduceNeg, Int.reduceSub, Int.reduceMul]
  · exact u
  · exact w1
  · exact w2
  · intro q g q0 q1 g0 g1
    by_cases c : 4 * q + g = 4 * p + h
    · rw [c, up_s]; exact ⟨h0, h1⟩
    · rw [up_i c]; exact w3 q g q0 q1 g0 g1
  · exact w
  · exact s
  · exact a1
  · exact a2
  · intro q g q0 q1 g0 g1
    by_cases c : 4 * q + g = 4 * p + h
    · rw [c, up_s, up_s]
    · rw [up_i c, up_i c]; exact a3 q g q0 q1 g0 g1
  · exact a
theorem RepR.worth {p h v : Int} (r : RepR t σ M Ls) (h0 : 0 ≤ v) (h1 : v ≤ 99) : RepR t (up σ 14 (4 * p + h) v) (up M 5 (4 * p + h) v) Ls := by
  unfold RepR wfM at r ⊢
  obtain ⟨tt, ⟨u, w1, w2, w3, w⟩, l, s, a1, a2, a3, a⟩ := r
  refine ⟨tt, ⟨?_, ?_, ?_, ?_, ?_⟩, l.fr (fun k i h0 h1 => by rw [up_k (by omega)]) (by simp only [up_s, up_k, up_i, clr_n, clr_i, clr_j, clr_r, catS_n, catS_i, catS_j, catS_r, Option.toList_some, Option.toList_none, List.cons_append, List.nil_append, List.singleton_append, true_and, and_true, ne_eq, not_false_eq_true, not_true_eq_false, reduceCtorEq, if_true, if_false, true_or, or_true, false_or, or_false, Nat.reduceLT, Nat.reduceEqDiff, Nat.reduceAdd, Nat.reduceLeDiff, Int.reduceEq, Int.reduceNe, Int.reduceLT, Int.reduceLE, Int.reduceAdd, Int.reduceNeg, Int.reduceSub, Int.reduceMul]) (by simp only [up_s, up_k, up_i, clr_n, clr_i, clr_j, clr_r, catS_n, catS_i, catS_j, catS_r, Option.toList_some, Option.toList_none, List.cons_append, List.nil_append, List.singleton_append, true_and, and_true, ne_eq, not_false_eq_true, not_true_eq_false, reduceCtorEq, if_true, if_false, true_or, or_true, false_or, or_false, Nat.reduceLT, Nat.reduceEqDiff, Nat.reduceAdd, Nat.reduceLeDiff, Int.reduceEq, Int.reduceNe, Int.reduceLT, Int.reduceLE, Int.reduceAdd, Int.reduceNeg, Int.reduceSub, Int.reduceMul]), ?_, ?_, ?_, ?_, ?_⟩ <;> simp only [up_s, up_k, up_i, clr_n, clr_i, clr_j, clr_r, catS_n, catS_i, catS_j, catS_r, Option.toList_some, Option.toList_none, List.cons_append, List.nil_append, List.singleton_append, true_and, and_true, ne_eq, not_false_eq_true, not_true_eq_false, reduceCtorEq, if_true, if_false, true_or, or_true, false_or, or_false, Nat.reduceLT, Nat.reduceEqDiff, Nat.reduceAdd, Nat.reduceLeDiff, Int.reduceEq, Int.reduceNe, Int.reduceLT, Int.reduceLE, Int.reduceAdd, Int.reduceNeg, Int.reduceSub, Int.reduceMul]
  · exact u
  · exact w1
  · exact w2
  · intro q g q0 q1 g0 g1
    by_cases c : 4 * q + g = 4 * p + h
    · rw [c, up_s]; exact ⟨h0, h1⟩
    · rw [up_i c]; exact w3 q g q0 q1 g0 g1
  · exact w
  · exact s
  · exact a1
  · exact a2
  · intro q g q0 q1 g0 g1
    by_cases c : 4 * q + g = 4 * p + h
    · rw [c, up_s, up_s]
    · rw [up_i c, up_i c]; exact a3 q g q0 q1 g0 g1
  · exact a
/-- somebody said where he lived -/
def saM (M : Sto) (p x : Int) : Sto := up (up (up M 6 (M 0 8) p) 7 (M 0 8) x) 0 8 (M 0 8 + 1)
theorem RepC.said {p x : Int} (r : RepC σ M Ls) (p0 : 0 ≤ p) (p1 : p < M 0 0) (x0 : 0 ≤ x) (x1 : x ≤ 9999) (h : M 0 8 < 20) : RepC (up (up (up σ 42 (M 0 8) p) 43 (M 0 8) x) 14 10 (M 0 8 + 1)) (saM M p x) Ls := by
  unfold RepC wfM saM at *
  obtain ⟨⟨⟨u0, u1, u2, u3, u4, u5, u6, u7, u8, u9, u10, u11, u12, u13⟩, w1, w2, w3, w4, w⟩, l, ⟨s1, s2, s3, s4, s5, s6, s7, s8, s9, s10⟩, a1, a2, a3, a4, a⟩ := r
  refine ⟨⟨?_, ?_, ?_, ?_, ?_, ?_⟩, l.fr (fun k i h0 h1 => by rw [up_k (by omega), up_k (by omega), up_k (by omega)]), ?_, ?_, ?_, ?_, ?_, ?_⟩ <;> simp only [up_s, up_k, up_i, clr_n, clr_i, clr_j, clr_r, catS_n, catS_i, catS_j, catS_r, Option.toList_some, Option.toList_none, List.cons_append, List.nil_append, List.singleton_append, true_and, and_true, ne_eq, not_false_eq_true, not_true_eq_false, reduceCtorEq, if_true, if_false, true_or, or_true, false_or, or_false, Nat.reduceLT, Nat.reduceEqDiff, Nat.reduceAdd, Nat.reduceLeDiff, Int.reduceEq, Int.reduceNe, Int.reduceLT, Int.reduceLE, Int.reduceAdd, Int.reduceNeg, Int.reduceSub, Int.reduceMul]
  · exact ⟨u0, u1, u2, u3, u4, u5, u6, u7, u8, u9, u10, by omega, by omega, u13⟩
  · exact w1
  · exact w2
  · exact w3
  · intro k k0 k1
    by_cases c : k = M 0 8
    · rw [c, up_s, up_s]; exact ⟨p0, p1, x0, x1⟩
    · rw [up_i c, up_i c]; exact w4 k k0 (by omega)
  · exact w
  · exact ⟨s1, s2, s3, s4, s5, s6, s7, s8, s10⟩
  · exact a1
  · exact a2
  · exact a3
  · intro k k0 k1
    by_cases c : k = M 0 8
    · rw [c, up_s, up_s, up_s, up_s]; exact ⟨rfl, rfl⟩
    · rw [up_i c, up_i c, up_i c, up_i c]; exact a4 k k0 (by omega)
  · exact a
theorem RepR.said {p x : Int} (r : RepR t σ M Ls) (p0 : 0 ≤ p) (p1 : p < M 0 0) (x0 : 0 ≤ x) (x1 : x ≤ 9999) (h : M 0 8 < 20) : RepR t (up (up (up σ 24 (M 0 8) p) 25 (M 0 8) x) 0 48 (M 0 8 + 1)) (saM M p x) Ls := by
  unfold RepR wfM saM at *
  obtain ⟨tt, ⟨⟨u0, u1, u2, u3, u4, u5, u6, u7, u8, u9, u10, u11, u12, u13⟩, w1, w2, w3, w4, w⟩, l, ⟨s1, s2, s3, s4, s5, s6, s7, s8, s9, s10⟩, a1, a2, a3, a4, a⟩ := r
  refine ⟨tt, ⟨?_, ?_, ?_, ?_, ?_, ?_⟩, l.fr (fun k i h0 h1 => by rw [up_k (by omega), up_k (by omega), up_k (by omega)]) (by simp only [up_s, up_k, up_i, clr_n, clr_i, clr_j, clr_r, catS_n, catS_i, catS_j, catS_r, Option.toList_some, Option.toList_none, List.cons_append, List.nil_append, List.singleton_append, true_and, and_true, ne_eq, not_false_eq_true, not_true_eq_false, reduceCtorEq, if_true, if_false, true_or, or_true, false_or, or_false, Nat.reduceLT, Nat.reduceEqDiff, Nat.reduceAdd, Nat.reduceLeDiff, Int.reduceEq, Int.reduceNe, Int.reduceLT, Int.reduceLE, Int.reduceAdd, Int.reduceNeg, Int.reduceSub, Int.reduceMul]) (by simp only [up_s, up_k, up_i, clr_n, clr_i, clr_j, clr_r, catS_n, catS_i, catS_j, catS_r, Option.toList_some, Option.toList_none, List.cons_append, List.nil_append, List.singleton_append, true_and, and_true, ne_eq, not_false_eq_true, not_true_eq_false, reduceCtorEq, if_true, if_false, true_or, or_true, false_or, or_false, Nat.reduceLT, Nat.reduceEqDiff, Nat.reduceAdd, Nat.reduceLeDiff, Int.reduceEq, Int.reduceNe, Int.reduceLT, Int.reduceLE, Int.reduceAdd, Int.reduceNeg, Int.reduceSub, Int.reduceMul]), ?_, ?_, ?_, ?_, ?_, ?_⟩ <;> simp only [up_s, up_k, up_i, clr_n, clr_i, clr_j, clr_r, catS_n, catS_i, catS_j, catS_r, Option.toList_some, Option.toList_none, List.cons_append, List.nil_append, List.singleton_append, true_and, and_true, ne_eq, not_false_eq_true, not_true_eq_false, reduceCtorEq, if_true, if_false, true_or, or_true, false_or, or_false, Nat.reduceLT, Nat.reduceEqDiff, Nat.reduceAdd, Nat.reduceLeDiff, Int.reduceEq, Int.reduceNe, Int.reduceLT, Int.reduceLE, Int.reduceAdd, Int.reduceNeg, Int.reduceSub, Int.reduceMul]
  · exact ⟨u0, u1, u2, u3, u4, u5, u6, u7, u8, u9, u10, by omega, by omega, u13⟩
  · exact w1
  · exact w2
  · exact w3
  · intro k k0 k1
    by_cases c : k = M 0 8
    · rw [c, up_s, up_s]; exact ⟨p0, p1, x0, x1⟩
    · rw [up_i c, up_i c]; exact w4 k k0 (by omega)
  · exact w
  · exact ⟨s1, s2, s3, s4, s5, s6, s7, s8, s10⟩
  · exact a1
  · exact a2
  · exact a3
  · intro k k0 k1
    by_cases c : k = M 0 8
    · rw [c, up_s, up_s, up_s, up_s]; exact ⟨rfl, rfl⟩
    · rw [up_i c, up_i c, up_i c, up_i c]; exact a4 k k0 (by omega)
  · exact a
theorem RepR.thr {v : Int} (r : RepR t σ M Ls) : RepR t (up σ 0 0 v) M Ls :=
  FrN.rep' (fun k i q => up_ne (by unfold kpR at q; omega)) r (fun i => by rw [up_k (by decide)])
end
