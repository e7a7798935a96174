-- the tape
section
variable {d : Nat} {sh : List Kd} {σ : Sto} {Q : Option AV → List Kd → Sto → Prop} {t : Nat} {M : Sto} {Ls : List (List Cl)}
def apM (M : Sto) (c : Int) : Sto := if c = 0 then M else up (up M 10 (M 0 14) c) 0 14 (M 0 14 + 1)
def apMs (M : Sto) (l : List Int) : Sto := l.foldl apM M
theorem apM_len (c : Int) : apM M c 0 14 = M 0 14 + bz (¬ c = 0) := by
  unfold apM
  by_cases h : c = 0
  · rw [if_pos h, bz_f (fun q => q h), Int.add_zero]
  · rw [if_neg h, bz_t h, up_s]
theorem wf_ap {c : Int} (w : wfM M Ls) (hc : 0 ≤ c ∧ c ≤ 255) (hl : M 0 14 < 160) : wfM (apM M c) Ls := by
  unfold apM
  by_cases h : c = 0
  · rw [if_pos h]; exact w
  · rw [if_neg h]
    unfold wfM at w ⊢
    obtain ⟨⟨u0, u1, u2, u3, u4, u5, u6, u7, u8, u9, u10, u11, u12, u13, u14, u15⟩, w1, w2, w3, w4, w5, w6⟩ := w
    simp only [up_s, up_k, up_i, clr_n, clr_i, clr_j, clr_r, catS_n, catS_i, catS_j, catS_r, Option.toList_some, Option.toList_none, List.cons_append, List.nil_append, List.singleton_append, true_and, and_true, ne_eq, not_false_eq_true, not_true_eq_false, reduceCtorEq, if_true, if_false, true_or, or_true, false_or, or_false, Nat.reduceLT, Nat.reduceEqDiff, Nat.reduceAdd, Nat.reduceLeDiff, Int.reduceEq, Int.reduceNe, Int.reduceLT, Int.reduceLE, Int.reduceAdd, Int.reduceNeg, Int.reduceSub, Int.reduceMul]
    refine ⟨⟨u0, u1, u2, u3, u4, u5, u6, u7, u8, u9, u10, u11, u12, u13, by omega, by omega⟩, w1, w2, w3, w4, w5, fun i i0 i1 => ?_⟩
    by_cases e : i = M 0 14
    · rw [e, up_s]; exact hc
    · rw [up_i e]; exact w6 i i0 (by omega)
theorem RepC.ap {c : Int} (r : RepC σ M Ls) (hc : 0 ≤ c ∧ c ≤ 255) (hl : ¬ c = 0 → M 0 14 < 160) : RepC (apC σ c) (apM M c) Ls := by
  by_cases h : c = 0
  · unfold apC apM; rw [if_pos h, if_pos h]; exact r
  · have w := wf_ap r.wf hc (hl h)
    unfold apM at w ⊢
    unfold apC
    rw [if_neg h] at w ⊢
    rw [if_neg h]
    unfold RepC at r ⊢
    obtain ⟨_, l, s, a1, a2, a3, a4, a5, a6, a7⟩ := r
    refine ⟨w, l.fr (fun k i h0 h1 => by rw [up_k (by omega), up_k (by omega)]), ?_⟩
    simp only [up_s, up_k, up_i, clr_n, clr_i, clr_j, clr_r, catS_n, catS_i, catS_j, catS_r, Option.toList_some, Option.toList_none, List.cons_append, List.nil_append, List.singleton_append, true_and, and_true, ne_eq, not_false_eq_true, not_true_eq_false, reduceCtorEq, if_true, if_false, true_or, or_true, false_or, or_false, Nat.reduceLT, Nat.reduceEqDiff, Nat.reduceAdd, Nat.reduceLeDiff, Int.reduceEq, Int.reduceNe, Int.reduceLT, Int.reduceLE, Int.reduceAdd, Int.reduceNeg, Int.reduceSub, Int.reduceMul, a6]
    refine ⟨s, a1, a2, a3, a4, a5, fun i hi => ?_⟩
    by_cases e : i = M 0 14
    · rw [e, up_s, up_s]
    · rw [up_i e, up_i e]; exact a7 i (by omega)
theorem w8_255 {c : Int} (hc : 0 ≤ c ∧ c ≤ 255) : zand (w8 c) 255 = c := by
  rw [(zand255 _).2.2]
  unfold w8
  have : Int.bmod c 256 % 256 = c % 256 := Int.bmod_emod (x := c) (m := 256)
  rw [this]
  omega
theorem RepR.ap {c : Int} (r : RepR t σ M Ls) (hc : 0 ≤ c ∧ c ≤ 255) (hl : ¬ c = 0 → M 0 14 < 160) : RepR t (apR σ c) (apM M c) Ls := by
  by_cases h : c = 0
  · unfold apR apM; rw [if_pos h, if_pos h]; exact r
  · have w := wf_ap r.wf hc (hl h)
    unfold apM at w ⊢
    unfold apR
    rw [if_neg h] at w ⊢
    rw [if_neg h]
    unfold RepR at r ⊢
    obtain ⟨tt, _, l, s, a1, a2, a3, a4, a5, a6, a7, a8⟩ := r
    refine ⟨tt, w, l.fr (fun k i h0 h1 => by rw [up_k (by omega), up_k (by omega)]) (by simp only [up_s, up_k, up_i, clr_n, clr_i, clr_j, clr_r, catS_n, catS_i, catS_j, catS_r, Option.toList_some, Option.toList_none, List.cons_append, List.nil_append, List.singleton_append, true_and, and_true, ne_eq, not_false_eq_true, not_true_eq_false, reduceCtorEq, if_true, if_false, true_or, or_true, false_or, or_false, Nat.reduceLT, Nat.reduceEqDiff, Nat.reduceAdd, Nat.reduceLeDiff, Int.reduceEq, Int.reduceNe, Int.reduceLT, Int.reduceLE, Int.reduceAdd, Int.reduceNeg, Int.reduceSub, Int.reduceMul]) (by simp only [up_s, up_k, up_i, clr_n, clr_i, clr_j, clr_r, catS_n, catS_i, catS_j, catS_r, Option.toList_some, Option.toList_none, List.cons_append, List.nil_append, List.singleton_append, true_and, and_true, ne_eq, not_false_eq_true, not_true_eq_false, reduceCtorEq, if_true, if_false, true_or, or_true, false_or, or_false, Nat.reduceLT, Nat.reduceEqDiff, Nat.reduceAdd, Nat.reduceLeDiff, Int.reduceEq, Int.reduceNe, Int.reduceLT, Int.reduceLE, Int.reduceAdd, Int.reduceNeg, Int.reduceSub, Int.reduceMul]), ?_⟩
    simp only [up_s, up_k, up_i, clr_n, clr_i, clr_j, clr_r, catS_n, catS_i, catS_j, catS_r, Option.toList_some, Option.toList_none, List.cons_append, List.nil_append, List.singleton_append, true_and, and_true, ne_eq, not_false_eq_true, not_true_eq_false, reduceCtorEq, if_true, if_false, true_or, or_true, false_or, or_false, Nat.reduceLT, Nat.reduceEqDiff, Nat.reduceAdd, Nat.reduceLeDiff, Int.reduceEq, Int.reduceNe, Int.reduceLT, Int.reduceLE, Int.reduceAdd, Int.reduceNeg, Int.reduceSub, Int.reduceMul, a6]
    refine ⟨s, a1, a2, a3, a4, a5, fun i hi => ?_, fun i => ?_, a8.2⟩
    · by_cases e : i = M 0 14
      · rw [e, up_s, up_s]; exact w8_255 hc
      · rw [up_i e, up_i e]; exact a7 i (by omega)
    · by_cases e : i = M 0 14
      · rw [e, up_s]; exact w8_r c
      · rw [up_i e]; exact a8.1 i
theorem cnt_c (c : Int) (l : List Int) : cnt (c :: l) = bz (¬ c = 0) + cnt l := rfl
theorem apMs_len : ∀ (l : List Int) (M : Sto), apMs M l 0 14 = M 0 14 + cnt l := by
  intro l
  induction l with
  | nil => intro M; show M 0 14 = M 0 14 + 0; omega
  | cons c l ih => intro M; show apMs (apM M c) l 0 14 = _; rw [ih, apM_len, cnt_c]; omega
theorem RepC.aps : ∀ (l : List Int) (σ M : Sto), RepC σ M Ls → (∀ c ∈ l, 0 ≤ c ∧ c ≤ 255) → M 0 14 + cnt l ≤ 160 → RepC (apCs σ l) (apMs M l) Ls := by
  intro l
  induction l with
  | nil => intro σ M r _ _; exact r
  | cons c l ih =>
    intro σ M r hc hl
    have c0 := (cnt_le l).1
    rw [cnt_c] at hl
    refine ih _ _ (r.ap (hc c (List.mem_cons_self ..)) (fun q => by rw [bz_t q] at hl; omega)) (fun x hx => hc x (List.mem_cons_of_mem _ hx)) (by rw [apM_len]; omega)
theorem RepR.aps : ∀ (l : List Int) (σ M : Sto), RepR t σ M Ls → (∀ c ∈ l, 0 ≤ c ∧ c ≤ 255) → M 0 14 + cnt l ≤ 160 → RepR t (apRs σ l) (apMs M l) Ls := by
  intro l
  induction l with
  | nil => intro σ M r _ _; exact r
  | cons c l ih =>
    intro σ M r hc hl
    have c0 := (cnt_le l).1
    rw [cnt_c] at hl
    refine ih _ _ (r.ap (hc c (List.mem_cons_self ..)) (fun q => by rw [bz_t q] at hl; omega)) (fun x hx => hc x (List.mem_cons_of_mem _ hx)) (by rw [apM_len]; omega)
def fdL (a b c e g : Int) : List Int := bys a ++ (bys b ++ (bys c ++ (bys e ++ bys g)))
theorem fdL_r {a b c e g x : Int} (h : x ∈ fdL a b c e g) : 0 ≤ x ∧ x ≤ 255 := by
  unfold fdL at h
  simp only [List.mem_append] at h
  rcases h with h | h | h | h | h <;> exact bys_r h
theorem C_feed {a b c e g : Int} {m : Nat} (hm : 2 ≤ m) (r : RepC σ M Ls) (h1 : M 0 14 + cnt (fdL a b c e g) ≤ 160 → ∀ σ', RepC σ' (apMs M (fdL a b c e g)) Ls → Q (some (.inl (M 0 14 + cnt (fdL a b c e g)))) shC σ') (h2 : ¬ M 0 14 + cnt (fdL a b c e g) ≤ 160 → ∀ σ', RepC σ' M Ls → Q (some (.inl (-1))) shC σ') :
    Ex m mX11_feed 0 [(some (.inr (.inr (some (0))))), (some (.inl (a))), (some (.inl (b))), (some (.inl (c))), (some (.inl (e))), (some (.inl (g)))] [] shC σ Q := by
  obtain ⟨d, rfl⟩ : ∃ d, m = d + 2 := ⟨m - 2, by omega⟩
  have u := r.wf.1
  have tp : σ 1 1 = M 0 14 := r.2.2.2.2.2.2.2.2.1
  have ca := c_add (d := d) (σ := σ) (a := a) (b := b) (c := c) (e := e) (g := g) (Q := fun v s σ' => Ex (d + 1 + 1) mX11_feed 14 [(some (.inr (.inr (some (0))))), (some (.inl (a))), (some (.inl (b))), (some (.inl (c))), (some (.inl (e))), (some (.inl (g)))] (v.toList ++ []) s σ' Q) (by omega) (by omega)
  simp only at ca
  rw [show bys a ++ (bys b ++ (bys c ++ (bys e ++ bys g))) = fdL a b c e g from rfl, tp] at ca
  by_cases k : M 0 14 + cnt (fdL a b c e g) ≤ 160
  · rw [if_pos k] at ca
    simp only [sX11_feed_0, sX11_feed_1, sX11_feed_4, sX11_feed_5, sX11_feed_6, sX11_feed_7, sX11_feed_9, sX11_feed_11, sX11_feed_17, sX11_feed_18, sX11_feed_21, sX11_feed_24, sX11_feed_27, sX11_feed_28, up_s, up_k, up_i, clr_n, clr_i, clr_j, clr_r, catS_n, catS_i, catS_j, catS_r, Option.toList_some, Option.toList_none, List.cons_append, List.nil_append, List.singleton_append, true_and, and_true, ne_eq, not_false_eq_true, not_true_eq_false, reduceCtorEq, if_true, if_false, true_or, or_true, false_or, or_false, Nat.reduceLT, Nat.reduceEqDiff, Nat.reduceAdd, Nat.reduceLeDiff, Int.reduceEq, Int.reduceNe, Int.reduceLT, Int.reduceLE, Int.reduceAdd, Int.reduceNeg, Int.reduceSub, Int.reduceMul, hC_0_0, hC_0_1, hC_0_2, hC_0_3, hC_0_4, hC_0_5, hC_0_6, hC_0_7, hC_0_8, hC_0_9, hC_0_10, hC_0_11, hC_0_12, hC_0_13, hC_0_14, hC_0_15, hC_0_16, hC_1_0, hC_1_1, hC_1_2, hC_1_3, hC_1_4, hC_1_5, hC_2_0, hC_3_0, hC_3_1, hC_3_2, hC_3_3, hC_3_4, hC_3_5, hC_3_6, hC_3_7, hC_3_8, hC_3_9, hC_3_10, hC_3_11, hC_3_12, hC_4_0, hC_5_0, hC_6_0, hC_7_0, hC_8_0, hC_9_0, hC_9_1, hC_9_2, hC_10_0, hC_10_1, hC_10_2, hC_10_3, hC_10_4, hC_10_5, hC_10_6, hC_10_7, hC_10_8, hC_11_0, hC_12_0, hC_13_0, hC_14_0, hC_14_1, hC_14_2, hC_14_3, hC_14_4, hC_14_5, hC_14_6, hC_14_7, hC_14_8, hC_14_9, hC_14_10, hC_14_11, hC_14_12, hC_14_13, hC_14_14, hC_14_15, hC_14_16, hC_14_17, hC_14_18, hC_14_19, hC_14_20, hC_14_21, hC_14_22, hC_14_23, hC_15_0, hC_16_0, hC_17_0, hC_18_0, hC_18_1, hC_18_2, hC_18_3, hC_18_4, hC_19_0, hC_20_0, hC_20_1, hC_20_2, hC_20_3, hC_20_4, hC_20_5, hC_20_6, hC_20_7, hC_20_8, hC_21_0, hC_22_0, hC_23_0, hC_24_0, hC_24_1, hC_24_2, hC_24_3, hC_24_4, hC_24_5, hC_24_6, hC_24_7, hC_24_8, hC_25_0, hC_26_0, hC_27_0, hC_28_0, hC_28_1, hC_28_2, hC_28_3, hC_28_4, hC_28_5, hC_28_6, hC_28_7, hC_28_8, hC_29_0, hC_30_0, hC_31_0, hC_32_0, hC_32_1, hC_32_2, hC_32_3, hC_32_4, hC_32_5, hC_32_6, hC_32_7, hC_32_8, hC_33_0, hC_34_0, hC_35_0, hC_36_0, hC_36_1, hC_36_2, hC_36_3, hC_36_4, hC_36_5, hC_36_6, hC_36_7, hC_36_8, hC_37_0, hC_38_0, hC_39_0, hC_39_1, hC_39_2, hC_39_3, hC_39_4, hC_39_5, hC_39_6, hC_39_7, hC_39_8, hC_40_0, hC_41_0, hC_42_0, hC_43_0, hC_44_0, hC_45_0, hC_45_1, hC_45_2, hC_45_3, hC_45_4, hC_45_5, hC_46_0, hC_47_0, hC_47_1, hC_47_2, hC_47_3, hC_47_4, hC_47_5, hC_47_6, hC_47_7, hC_47_8, hC_47_9, hC_47_10, hC_47_11, hC_47_12, hC_47_13, hC_48_0, hC_49_0, hC_50_0, hC_51_0, hC_52_0, hC_52_1, hC_52_2, hC_52_3, hC_52_4, hC_52_5, hC_52_6, hC_52_7, hC_52_8, hC_52_9, hC_52_10, hC_52_11, hC_52_12, hC_52_13, hC_53_0, hC_54_0, hC_55_0, hC_56_0, hC_57_0, hC_58_0, hC_58_1, hC_58_2, hC_59_0]
    rw [ca]
    have r2 := RepC.aps (fdL a b c e g) σ M r (fun x hx => fdL_r hx) k
    have t2 : apCs σ (fdL a b c e g) 1 1 = M 0 14 + cnt (fdL a b c e g) := by rw [apCs_len, tp]
    simp only [sX11_feed_0, sX11_feed_1, sX11_feed_4, sX11_feed_5, sX11_feed_6, sX11_feed_7, sX11_feed_9, sX11_feed_11, sX11_feed_14, sX11_feed_17, sX11_feed_18, sX11_feed_21, sX11_feed_24, sX11_feed_27, sX11_feed_28, up_s, up_k, up_i, clr_n, clr_i, clr_j, clr_r, catS_n, catS_i, catS_j, catS_r, Option.toList_some, Option.toList_none, List.cons_append, List.nil_append, List.singleton_append, true_and, and_true, ne_eq, not_false_eq_true, not_true_eq_false, reduceCtorEq, if_true, if_false, true_or, or_true, false_or, or_false, Nat.reduceLT, Nat.reduceEqDiff, Nat.reduceAdd, Nat.reduceLeDiff, Int.reduceEq, Int.reduceNe, Int.reduceLT, Int.reduceLE, Int.reduceAdd, Int.reduceNeg, Int.reduceSub, Int.reduceMul, hC_0_0, hC_0_1, hC_0_2, hC_0_3, hC_0_4, hC_0_5, hC_0_6, hC_0_7, hC_0_8, hC_0_9, hC_0_10, hC_0_11, hC_0_12, hC_0_13, hC_0_14, hC_0_15, hC_0_16, hC_1_0, hC_1_1, hC_1_2, hC_1_3, hC_1_4, hC_1_5, hC_2_0, hC_3_0, hC_3_1, hC_3_2, hC_3_3, hC_3_4, hC_3_5, hC_3_6, hC_3_7, hC_3_8, hC_3_9, hC_3_10, hC_3_11, hC_3_12, hC_4_0, hC_5_0, hC_6_0, hC_7_0, hC_8_0, hC_9_0, hC_9_1, hC_9_2, hC_10_0, hC_10_1, hC_10_2, hC_10_3, hC_10_4, hC_10_5, hC_10_6, hC_10_7, hC_10_8, hC_11_0, hC_12_0, hC_13_0, hC_14_0, hC_14_1, hC_14_2, hC_14_3, hC_14_4, hC_14_5, hC_14_6, hC_14_7, hC_14_8, hC_14_9, hC_14_10, hC_14_11, hC_14_12, hC_14_13, hC_14_14, hC_14_15, hC_14_16, hC_14_17, hC_14_18, hC_14_19, hC_14_20, hC_14_21, hC_14_22, hC_14_23, hC_15_0, hC_16_0, hC_17_0, hC_18_0, hC_18_1, hC_18_2, hC_18_3, hC_18_4, hC_19_0, hC_20_0, hC_20_1, hC_20_2, hC_20_3, hC_20_4, hC_20_5, hC_20_6, hC_20_7, hC_20_8, hC_21_0, hC_22_0, hC_23_0, hC_24_0, hC_24_1, hC_24_2, hC_24_3, hC_24_4, hC_24_5, hC_24_6, hC_24_7, hC_24_8, hC_25_0, hC_26_0, hC_27_0, hC_28_0, hC_28_1, hC_28_2, hC_28_3, hC_28_4, hC_28_5, hC_28_6, hC_28_7, hC_28_8, hC_29_0, hC_30_0, hC_31_0, hC_32_0, hC_32_1, hC_32_2, hC_32_3, hC_32_4, hC_32_5, hC_32_6, hC_32_7, hC_32_8, hC_33_0, hC_34_0, hC_35_0, hC_36_0, hC_36_1, hC_36_2, hC_36_3, hC_36_4, hC_36_5, hC_36_6, hC_36_7, hC_36_8, hC_37_0, hC_38_0, hC_39_0, hC_39_1, hC_39_2, hC_39_3, hC_39_4, hC_39_5, hC_39_6, hC_39_7, hC_39_8, hC_40_0, hC_41_0, hC_42_0, hC_43_0, hC_44_0, hC_45_0, hC_45_1, hC_45_2, hC_45_3, hC_45_4, hC_45_5, hC_46_0, hC_47_0, hC_47_1, hC_47_2, hC_47_3, hC_47_4, hC_47_5, hC_47_6, hC_47_7, hC_47_8, hC_47_9, hC_47_10, hC_47_11, hC_47_12, hC_47_13, hC_48_0, hC_49_0, hC_50_0, hC_51_0, hC_52_0, hC_52_1, hC_52_2, hC_52_3, hC_52_4, hC_52_5, hC_52_6, hC_52_7, hC_52_8, hC_52_9, hC_52_10, hC_52_11, hC_52_12, hC_52_13, hC_53_0, hC_54_0, hC_55_0, hC_56_0, hC_57_0, hC_58_0, hC_58_1, hC_58_2, hC_59_0, t2]
    exact h1 k _ r2
  · rw [if_neg k] at ca
    simp only [sX11_feed_0, sX11_feed_1, sX11_feed_4, sX11_feed_5, sX11_feed_6, sX11_feed_7, sX11_feed_9, sX11_feed_11, sX11_feed_17, sX11_feed_18, sX11_feed_21, sX11_feed_24, sX11_feed_27, sX11_feed_28, up_s, up_k, up_i, clr_n, clr_i, clr_j, clr_r, catS_n, catS_i, catS_j, catS_r, Option.toList_some, Option.toList_none, List.cons_append, List.nil_append, List.singleton_append, true_and, and_true, ne_eq, not_false_eq_true, not_true_eq_false, reduceCtorEq, if_true, if_false, true_or, or_true, false_or, or_false, Nat.reduceLT, Nat.reduceEqDiff, Nat.reduceAdd, Nat.reduceLeDiff, Int.reduceEq, Int.reduceNe, Int.reduceLT, Int.reduceLE, Int.reduceAdd, Int.reduceNeg, Int.reduceSub, Int.reduceMul, hC_0_0, hC_0_1, hC_0_2, hC_0_3, hC_0_4, hC_0_5, hC_0_6, hC_0_7, hC_0_8, hC_0_9, hC_0_10, hC_0_11, hC_0_12, hC_0_13, hC_0_14, hC_0_15, hC_0_16, hC_1_0, hC_1_1, hC_1_2, hC_1_3, hC_1_4, hC_1_5, hC_2_0, hC_3_0, hC_3_1, hC_3_2, hC_3_3, hC_3_4, hC_3_5, hC_3_6, hC_3_7, hC_3_8, hC_3_9, hC_3_10, hC_3_11, hC_3_12, hC_4_0, hC_5_0, hC_6_0, hC_7_0, hC_8_0, hC_9_0, hC_9_1, hC_9_2, hC_10_0, hC_10_1, hC_10_2, hC_10_3, hC_10_4, hC_10_5, hC_10_6, hC_10_7, hC_10_8, hC_11_0, hC_12_0, hC_13_0, hC_14_0, hC_14_1, hC_14_2, hC_14_3, hC_14_4, hC_14_5, hC_14_6, hC_14_7, hC_14_8, hC_14_9, hC_14_10, hC_14_11, hC_14_12, hC_14_13, hC_14_14, hC_14_15, hC_14_16, hC_14_17, hC_14_18, hC_14_19, hC_14_20, hC_14_21, hC_14_22, hC_14_23, hC_15_0, hC_16_0, hC_17_0, hC_18_0, hC_18_1, hC_18_2, hC_18_3, hC_18_4, hC_19_0, hC_20_0, hC_20_1, hC_20_2, hC_20_3, hC_20_4, hC_20_5, hC_20_6, hC_20_7, hC_20_8, hC_21_0, hC_22_0, hC_23_0, hC_24_0, hC_24_1, hC_24_2, hC_24_3, hC_24_4, hC_24_5, hC_24_6, hC_24_7, hC_24_8, hC_25_0, hC_26_0, hC_27_0, hC_28_0, hC_28_1, hC_28_2, hC_28_3, hC_28_4, hC_28_5, hC_28_6, hC_28_7, hC_28_8, hC_29_0, hC_30_0, hC_31_0, hC_32_0, hC_32_1, hC_32_2, hC_32_3, hC_32_4, hC_32_5, hC_32_6, hC_32_7, hC_32_8, hC_33_0, hC_34_0, hC_35_0, hC_36_0, hC_36_1, hC_36_2, hC_36_3, hC_36_4, hC_36_5, hC_36_6, hC_36_7, hC_36_8, hC_37_0, hC_38_0, hC_39_0, hC_39_1, hC_39_2, hC_39_3, hC_39_4, hC_39_5, hC_39_6, hC_39_7, hC_39_8, hC_40_0, hC_41_0, hC_42_0, hC_43_0, hC_44_0, hC_45_0, hC_45_1, hC_45_2, hC_45_3, hC_45_4, hC_45_5, hC_46_0, hC_47_0, hC_47_1, hC_47_2, hC_47_3, hC_47_4, hC_47_5, hC_47_6, hC_47_7, hC_47_8, hC_47_9, hC_47_10, hC_47_11, hC_47_12, hC_47_13, hC_48_0, hC_49_0, hC_50_0, hC_51_0, hC_52_0, hC_52_1, hC_52_2, hC_52_3, hC_52_4, hC_52_5, hC_52_6, hC_52_7, hC_52_8, hC_52_9, hC_52_10, hC_52_11, hC_52_12, hC_52_13, hC_53_0, hC_54_0, hC_55_0, hC_56_0, hC_57_0, hC_58_0, hC_58_1, hC_58_2, hC_59_0]
    rw [ca]
    simp only [sX11_feed_0, sX11_feed_1, sX11_feed_4, sX11_feed_5, sX11_feed_6, sX11_feed_7, sX11_feed_9, sX11_feed_11, sX11_feed_14, sX11_feed_17, sX11_feed_18, sX11_feed_21, sX11_feed_24, sX11_feed_27, sX11_feed_28, up_s, up_k, up_i, clr_n, clr_i, clr_j, clr_r, catS_n, catS_i, catS_j, catS_r, Option.toList_some, Option.toList_none, List.cons_append, List.nil_append, List.singleton_append, true_and, and_true, ne_eq, not_false_eq_true, not_true_eq_false, reduceCtorEq, if_true, if_false, true_or, or_true, false_or, or_false, Nat.reduceLT, Nat.reduceEqDiff, Nat.reduceAdd, Nat.reduceLeDiff, Int.reduceEq, Int.reduceNe, Int.reduceLT, Int.reduceLE, Int.reduceAdd, Int.reduceNeg, Int.reduceSub, Int.reduceMul, hC_0_0, hC_0_1, hC_0_2, hC_0_3, hC_0_4, hC_0_5, hC_0_6, hC_0_7, hC_0_8, hC_0_9, hC_0_10, hC_0_11, hC_0_12, hC_0_13, hC_0_14, hC_0_15, hC_0_16, hC_1_0, hC_1_1, hC_1_2, hC_1_3, hC_1_4, hC_1_5, hC_2_0, hC_3_0, hC_3_1, hC_3_2, hC_3_3, hC_3_4, hC_3_5, hC_3_6, hC_3_7, hC_3_8, hC_3_9, hC_3_10, hC_3_11, hC_3_12, hC_4_0, hC_5_0, hC_6_0, hC_7_0, hC_8_0, hC_9_0, hC_9_1, hC_9_2, hC_10_0, hC_10_1, hC_10_2, hC_10_3, hC_10_4, hC_10_5, hC_10_6, hC_10_7, hC_10_8, hC_11_0, hC_12_0, hC_13_0, hC_14_0, hC_14_1, hC_14_2, hC_14_3, hC_14_4, hC_14_5, hC_14_6, hC_14_7, hC_14_8, hC_14_9, hC_14_10, hC_14_11, hC_14_12, hC_14_13, hC_14_14, hC_14_15, hC_14_16, hC_14_17, hC_14_18, hC_14_19, hC_14_20, hC_14_21, hC_14_22, hC_14_23, hC_15_0, hC_16_0, hC_17_0, hC_18_0, hC_18_1, hC_18_2, hC_18_3, hC_18_4, hC_19_0, hC_20_0, hC_20_1, hC_20_2, hC_20_3, hC_20_4, hC_20_5, hC_20_6, hC_20_7, hC_20_8, hC_21_0, hC_22_0, hC_23_0, hC_24_0, hC_24_1, hC_24_2, hC_24_3, hC_24_4, hC_24_5, hC_24_6, hC_24_7, hC_24_8, hC_25_0, hC_26_0, hC_27_0, hC_28_0, hC_28_1, hC_28_2, hC_28_3, hC_28_4, hC_28_5, hC_28_6, hC_28_7, hC_28_8, hC_29_0, hC_30_0, hC_31_0, hC_32_0, hC_32_1, hC_32_2, hC_32_3, hC_32_4, hC_32_5, hC_32_6, hC_32_7, hC_32_8, hC_33_0, hC_34_0, hC_35_0, hC_36_0, hC_36_1, hC_36_2, hC_36_3, hC_36_4, hC_36_5, hC_36_6, hC_36_7, hC_36_8, hC_37_0, hC_38_0, hC_39_0, hC_39_1, hC_39_2, hC_39_3, hC_39_4, hC_39_5, hC_39_6, hC_39_7, hC_39_8, hC_40_0, hC_41_0, hC_42_0, hC_43_0, hC_44_0, hC_45_0, hC_45_1, hC_45_2, hC_45_3, hC_45_4, hC_45_5, hC_46_0, hC_47_0, hC_47_1, hC_47_2, hC_47_3, hC_47_4, hC_47_5, hC_47_6, hC_47_7, hC_47_8, hC_47_9, hC_47_10, hC_47_11, hC_47_12, hC_47_13, hC_48_0, hC_49_0, hC_50_0, hC_51_0, hC_52_0, hC_52_1, hC_52_2, hC_52_3, hC_52_4, hC_52_5, hC_52_6, hC_52_7, hC_52_8, hC_52_9, hC_52_10, hC_52_11, hC_52_12, hC_52_13, hC_53_0, hC_54_0, hC_55_0, hC_56_0, hC_57_0, hC_58_0, hC_58_1, hC_58_2, hC_59_0]
    exact h2 k _ r
theorem R_feed {a b c e g : Int} {m : Nat} (hm : 1 ≤ m) (ha : z32 a) (hb : z32 b) (hc : z32 c) (he : z32 e) (hg : z32 g) (r : RepR t σ M Ls) (h1 : M 0 14 + cnt (fdL a b c e g) ≤ 160 → ∀ σ', RepR t σ' (apMs M (fdL a b c e g)) Ls → Q (some (.inl (M 0 14 + cnt (fdL a b c e g)))) (shR t) σ') (h2 : ¬ M 0 14 + cnt (fdL a b c e g) ≤ 160 → ∀ σ', RepR t σ' M Ls → Q (some (.inl (-1))) (shR t) σ') :
    Ex m mX12_feed 0 [(some (.inr (.inr (some (0))))), (some (.inl (a))), (some (.inl (b))), (some (.inl (c))), (some (.inl (e))), (some (.inl (g)))] [] (shR t) σ Q := by
  obtain ⟨d, rfl⟩ : ∃ d, m = d + 1 := ⟨m - 1, by omega⟩
  have u := r.wf.1
  have r0 := r.thr (v := 0)
  have tp : σ 0 6 = M 0 14 := r.2.2.2.2.2.2.2.2.2.1
  rw [r_feed ha hb hc he hg (by omega) (by omega)]
  simp only
  rw [show bys a ++ (bys b ++ (bys c ++ (bys e ++ bys g))) = fdL a b c e g from rfl, tp]
  by_cases k : M 0 14 + cnt (fdL a b c e g) ≤ 160
  · rw [if_pos k]
    exact h1 k _ (RepR.aps (fdL a b c e g) _ M r0 (fun x hx => fdL_r hx) k)
  · rw [if_neg k]
    exact h2 k _ r0
-- end
theorem RepC.cut {n : Int} (r : RepC σ M Ls) (h0 : 0 ≤ n) (h1 : n ≤ M 0 14) : RepC (up σ 1 1 n) (up M 0 14 n) Ls := by
  unfold RepC wfM at r ⊢
  obtain ⟨⟨⟨u0, u1, u2, u3, u4, u5, u6, u7, u8, u9, u10, u11, u12, u13, u14, u15⟩, w1, w2, w3, w4, w5, w6⟩, l, s, a1, a2, a3, a4, a5, a6, a7⟩ := r
  refine ⟨?_, l.fr (fun k i h0 h1 => by rw [up_k (by omega)]), ?_⟩ <;> simp only [up_s, up_k, up_i, clr_n, clr_i, clr_j, clr_r, catS_n, catS_i, catS_j, catS_r, Option.toList_some, Option.toList_none, List.cons_append, List.nil_append, List.singleton_append, true_and, and_true, ne_eq, not_false_eq_true, not_true_eq_false, reduceCtorEq, if_true, if_false, true_or, or_true, false_or, or_false, Nat.reduceLT, Nat.reduceEqDiff, Nat.reduceAdd, Nat.reduceLeDiff, Int.reduceEq, Int.reduceNe, Int.reduceLT, Int.reduceLE, Int.reduceAdd, Int.reduceNeg, Int.reduceSub, Int.reduceMul]
  · exact ⟨⟨u0, u1, u2, u3, u4, u5, u6, u7, u8, u9, u10, u11, u12, u13, h0, by omega⟩, w1, w2, w3, w4, w5, fun i i0 i1 => w6 i i0 (by omega)⟩
  · exact ⟨s, a1, a2, a3, a4, a5, fun i hi => a7 i (by omega)⟩
theorem RepR.cut {n : Int} (r : RepR t σ M Ls) (h0 : 0 ≤ n) (h1 : n ≤ M 0 14) : RepR t (up σ 0 6 n) (up M 0 14 n) Ls := by
  unfold RepR wfM at r ⊢
  obtain ⟨tt, ⟨⟨u0, u1, u2, u3, u4, u5, u6, u7, u8, u9, u10, u11, u12, u13, u14, u15⟩, w1, w2, w3, w4, w5, w6⟩, l, s, a1, a2, a3, a4, a5, a6, a7, a8⟩ := r
  refine ⟨tt, ?_, l.fr (fun k i h0 h1 => by rw [up_k (by omega)]) (by simp only [up_s, up_k, up_i, clr_n, clr_i, clr_j, clr_r, catS_n, catS_i, catS_j, catS_r, Option.toList_some, Option.toList_none, List.cons_append, List.nil_append, List.singleton_append, true_and, and_true, ne_eq, not_false_eq_true, not_true_eq_false, reduceCtorEq, if_true, if_false, true_or, or_true, false_or, or_false, Nat.reduceLT, Nat.reduceEqDiff, Nat.reduceAdd, Nat.reduceLeDiff, Int.reduceEq, Int.reduceNe, Int.reduceLT, Int.reduceLE, Int.reduceAdd, Int.reduceNeg, Int.reduceSub, Int.reduceMul]) (by simp only [up_s, up_k, up_i, clr_n, clr_i, clr_j, clr_r, catS_n, catS_i, catS_j, catS_r, Option.toList_some, Option.toList_none, List.cons_append, List.nil_append, List.singleton_append, true_and, and_true, ne_eq, not_false_eq_true, not_true_eq_false, reduceCtorEq, if_true, if_false, true_or, or_true, false_or, or_false, Nat.reduceLT, Nat.reduceEqDiff, Nat.reduceAdd, Nat.reduceLeDiff, Int.reduceEq, Int.reduceNe, Int.reduceLT, Int.reduceLE, Int.reduceAdd, Int.reduceNeg, Int.reduceSub, Int.reduceMul]), ?_⟩ <;> simp only [up_s, up_k, up_i, clr_n, clr_i, clr_j, clr_r, catS_n, catS_i, catS_j, catS_r, Option.toList_some, Option.toList_none, List.cons_append, List.nil_append, List.singleton_append, true_and, and_true, ne_eq, not_false_eq_true, not_true_eq_false, reduceCtorEq, if_true, if_false, true_or, or_true, false_or, or_false, Nat.reduceLT, Nat.reduceEqDiff, Nat.reduceAdd, Nat.reduceLeDiff, Int.reduceEq, Int.reduceNe, Int.reduceLT, Int.reduceLE, Int.reduceAdd, Int.reduceNeg, Int.reduceSub, Int.reduceMul]
  · exact ⟨⟨u0, u1, u2, u3, u4, u5, u6, u7, u8, u9, u10, u11, u12, u13, h0, by omega⟩, w1, w2, w3, w4, w5, fun i i0 i1 => w6 i i0 (by omega)⟩
  · exact ⟨s, a1, a2, a3, a4, a5, fun i hi => a7 i (by omega), a8⟩
theorem C_end {n : Int} {m : Nat} (hm : 1 ≤ m) (r : RepC σ M Ls) (h1 : (0 ≤ n ∧ n ≤ M 0 14) → ∀ σ', RepC σ' (up M 0 14 n) Ls → Q (some (.inl (1))) shC σ') (h2 : ¬ (0 ≤ n ∧ n ≤ M 0 14) → ∀ σ', RepC σ' M Ls → Q (some (.inl (0))) shC σ') : Ex m mX11_end 0 [(some (.inr (.inr (some (0))))), (some (.inl (n)))] [] shC σ Q := by
  obtain ⟨d, rfl⟩ : ∃ d, m = d + 1 := ⟨m - 1, by omega⟩
  have tp : σ 1 1 = M 0 14 := r.2.2.2.2.2.2.2.2.1
  simp only [sX11_end_0, sX11_end_1, sX11_end_4, sX11_end_5, sX11_end_8, up_s, up_k, up_i, clr_n, clr_i, clr_j, clr_r, catS_n, catS_i, catS_j, catS_r, Option.toList_some, Option.toList_none, List.cons_append, List.nil_append, List.singleton_append, true_and, and_true, ne_eq, not_false_eq_true, not_true_eq_false, reduceCtorEq, if_true, if_false, true_or, or_true, false_or, or_false, Nat.reduceLT, Nat.reduceEqDiff, Nat.reduceAdd, Nat.reduceLeDiff, Int.reduceEq, Int.reduceNe, Int.reduceLT, Int.reduceLE, Int.reduceAdd, Int.reduceNeg, Int.reduceSub, Int.reduceMul, hC_0_0, hC_0_1, hC_0_2, hC_0_3, hC_0_4, hC_0_5, hC_0_6, hC_0_7, hC_0_8, hC_0_9, hC_0_10, hC_0_11, hC_0_12, hC_0_13, hC_0_14, hC_0_15, hC_0_16, hC_1_0, hC_1_1, hC_1_2, hC_1_3, hC_1_4, hC_1_5, hC_2_0, hC_3_0, hC_3_1, hC_3_2, hC_3_3, hC_3_4, hC_3_5, hC_3_6, hC_3_7, hC_3_8, hC_3_9, hC_3_10, hC_3_11, hC_3_12, hC_4_0, hC_5_0, hC_6_0, hC_7_0, hC_8_0, hC_9_0, hC_9_1, hC_9_2, hC_10_0, hC_10_1, hC_10_2, hC_10_3, hC_10_4, hC_10_5, hC_10_6, hC_10_7, hC_10_8, hC_11_0, hC_12_0, hC_13_0, hC_14_0, hC_14_1, hC_14_2, hC_14_3, hC_14_4, hC_14_5, hC_14_6, hC_14_7, hC_14_8, hC_14_9, hC_14_10, hC_14_11, hC_14_12, hC_14_13, hC_14_14, hC_14_15, hC_14_16, hC_14_17, hC_14_18, hC_14_19, hC_14_20, hC_14_21, hC_14_22, hC_14_23, hC_15_0, hC_16_0, hC_17_0, hC_18_0, hC_18_1, hC_18_2, hC_18_3, hC_18_4, hC_19_0, hC_20_0, hC_20_1, hC_20_2, hC_20_3, hC_20_4, hC_20_5, hC_20_6, hC_20_7, hC_20_8, hC_21_0, hC_22_0, hC_23_0, hC_24_0, hC_24_1, hC_24_2, hC_24_3, hC_24_4, hC_24_5, hC_24_6, hC_24_7, hC_24_8, hC_25_0, hC_26_0, hC_27_0, hC_28_0, hC_28_1, hC_28_2, hC_28_3, hC_28_4, hC_28_5, hC_28_6, hC_28_7, hC_28_8, hC_29_0, hC_30_0, hC_31_0, hC_32_0, hC_32_1, hC_32_2, hC_32_3, hC_32_4, hC_32_5, hC_32_6, hC_32_7, hC_32_8, hC_33_0, hC_34_0, hC_35_0, hC_36_0, hC_36_1, hC_36_2, hC_36_3, hC_36_4, hC_36_5, hC_36_6, hC_36_7, hC_36_8, hC_37_0, hC_38_0, hC_39_0, hC_39_1, hC_39_2, hC_39_3, hC_39_4, hC_39_5, hC_39_6, hC_39_7, hC_39_8, hC_40_0, hC_41_0, hC_42_0, hC_43_0, hC_44_0, hC_45_0, hC_45_1, hC_45_2, hC_45_3, hC_45_4, hC_45_5, hC_46_0, hC_47_0, hC_47_1, hC_47_2, hC_47_3, hC_47_4, hC_47_5, hC_47_6, hC_47_7, hC_47_8, hC_47_9, hC_47_10, hC_47_11, hC_47_12, hC_47_13, hC_48_0, hC_49_0, hC_50_0, hC_51_0, hC_52_0, hC_52_1, hC_52_2, hC_52_3, hC_52_4, hC_52_5, hC_52_6, hC_52_7, hC_52_8, hC_52_9, hC_52_10, hC_52_11, hC_52_12, hC_52_13, hC_53_0, hC_54_0, hC_55_0, hC_56_0, hC_57_0, hC_58_0, hC_58_1, hC_58_2, hC_59_0, c_cut, tp]
  by_cases k : 0 ≤ n ∧ n ≤ M 0 14
  · rw [if_pos k]; exact h1 k _ (r.cut k.1 k.2)
  · rw [if_neg k]; exact h2 k _ r
theorem R_end {n : Int} {m : Nat} (r : RepR t σ M Ls) (h1 : (0 ≤ n ∧ n ≤ M 0 14) → ∀ σ', RepR t σ' (up M 0 14 n) Ls → Q (some (.inl (1))) (shR t) σ') (h2 : ¬ (0 ≤ n ∧ n ≤ M 0 14) → ∀ σ', RepR t σ' M Ls → Q (some (.inl (0))) (shR t) σ') : Ex m mX12_end 0 [(some (.inr (.inr (some (0))))), (some (.inl (n)))] [] (shR t) σ Q := by
  have tp : σ 0 6 = M 0 14 := r.2.2.2.2.2.2.2.2.2.1
  rw [r_end, tp]
  by_cases k : 0 ≤ n ∧ n ≤ M 0 14
  · rw [if_pos k]; exact h1 k _ (r.thr.cut k.1 k.2)
  · rw [if_neg k]; exact h2 k _ r.thr
end
