-- one parish, as both hold it
section
variable {d : Nat} {sh : List Kd} {σ : Sto} {Q : Option AV → List Kd → Sto → Prop} {t : Nat} {M : Sto} {Ls : List (List Cl)}
/-- what a parish may be. M 0: people, houses, today, law, moved, dead, draws, risk, said, imaged, image's today, moved, dead, draws, tape's length; 1 births, 2 homes, 3 rooms, 4 prices, 5 worths, 6 and 7 what is said, 8 and 9 the image's births and homes, 10 the tape -/
def wfM (M : Sto) (Ls : List (List Cl)) : Prop :=
  (0 ≤ M 0 0 ∧ M 0 0 ≤ 6 ∧ 0 ≤ M 0 1 ∧ M 0 1 ≤ 4 ∧ (0 < M 0 0 → 0 < M 0 1) ∧ 0 ≤ M 0 2 ∧ M 0 2 ≤ 9999 ∧ -1 ≤ M 0 3 ∧ M 0 3 < Ls.length ∧ 0 ≤ M 0 7 ∧ M 0 7 ≤ 100 ∧ 0 ≤ M 0 8 ∧ M 0 8 ≤ 20 ∧ (M 0 9 = 0 ∨ M 0 9 = 1) ∧ 0 ≤ M 0 14 ∧ M 0 14 ≤ 160) ∧
  (∀ p, 0 ≤ p → p < M 0 0 → okB (M 1 p) ∧ -1 ≤ M 2 p ∧ M 2 p < M 0 1) ∧
  (∀ h, 0 ≤ h → h < M 0 1 → 1 ≤ M 3 h ∧ M 3 h ≤ 6 ∧ 0 ≤ M 4 h ∧ M 4 h ≤ 99) ∧
  (∀ p h, 0 ≤ p → p < M 0 0 → 0 ≤ h → h < M 0 1 → 0 ≤ M 5 (4 * p + h) ∧ M 5 (4 * p + h) ≤ 99) ∧
  (∀ k, 0 ≤ k → k < M 0 8 → 0 ≤ M 6 k ∧ M 6 k < M 0 0 ∧ 0 ≤ M 7 k ∧ M 7 k ≤ 9999) ∧
  (M 0 9 = 1 → 0 < M 0 0 ∧ 0 ≤ M 0 10 ∧ M 0 10 ≤ 9999 ∧ ∀ p, 0 ≤ p → p < M 0 0 → okB (M 8 p) ∧ -1 ≤ M 9 p ∧ M 9 p < M 0 1) ∧
  (∀ i, 0 ≤ i → i < M 0 14 → 0 ≤ M 10 i ∧ M 10 i ≤ 255)
def RepC (σ M : Sto) (Ls : List (List Cl)) : Prop := wfM M Ls ∧ lwC σ Ls ∧
  (σ 14 0 = M 0 0 ∧ σ 14 1 = M 0 1 ∧ σ 36 0 = M 0 2 ∧ σ 18 2 = M 0 3 ∧ σ 36 1 = M 0 4 ∧ σ 36 2 = M 0 5 ∧ σ 36 3 = M 0 6 ∧ σ 14 9 = M 0 7 ∧ σ 14 10 = M 0 8 ∧ σ 14 8 = M 0 9) ∧
  (∀ p, 0 ≤ p → p < M 0 0 → σ 37 p = M 1 p ∧ σ 38 p = M 2 p) ∧
  (∀ h, 0 ≤ h → h < M 0 1 → σ 15 h = M 3 h ∧ σ 16 h = M 4 h) ∧
  (∀ p h, 0 ≤ p → p < M 0 0 → 0 ≤ h → h < M 0 1 → σ 17 (4 * p + h) = M 5 (4 * p + h)) ∧
  (∀ k, 0 ≤ k → k < M 0 8 → σ 42 k = M 6 k ∧ σ 43 k = M 7 k) ∧
  (M 0 9 = 1 → σ 39 0 = M 0 10 ∧ σ 39 1 = M 0 11 ∧ σ 39 2 = M 0 12 ∧ σ 39 3 = M 0 13 ∧ ∀ p, 0 ≤ p → p < M 0 0 → σ 40 p = M 8 p ∧ σ 41 p = M 9 p) ∧
  (σ 1 1 = M 0 14 ∧ ∀ i, i < M 0 14 → σ 2 i = M 10 i)
def RepR (t : Nat) (σ M : Sto) (Ls : List (List Cl)) : Prop := (t = 1 ∨ t = 2) ∧ wfM M Ls ∧ lwR σ Ls ∧
  (σ 0 31 = M 0 0 ∧ σ 0 32 = M 0 1 ∧ σ 0 33 = M 0 2 ∧ σ 0 34 = M 0 3 ∧ σ 0 35 = M 0 4 ∧ σ 0 36 = M 0 5 ∧ σ 0 52 = M 0 6 ∧ σ 0 51 = M 0 7 ∧ σ 0 48 = M 0 8 ∧ σ 0 59 = M 0 9) ∧
  (∀ p, 0 ≤ p → p < M 0 0 → σ 10 p = M 1 p ∧ σ 11 p = M 2 p) ∧
  (∀ h, 0 ≤ h → h < M 0 1 → σ 12 h = M 3 h ∧ σ 13 h = M 4 h) ∧
  (∀ p h, 0 ≤ p → p < M 0 0 → 0 ≤ h → h < M 0 1 → σ 14 (4 * p + h) = M 5 (4 * p + h)) ∧
  (∀ k, 0 ≤ k → k < M 0 8 → σ 24 k = M 6 k ∧ σ 25 k = M 7 k) ∧
  (M 0 9 = 1 → σ 0 56 = M 0 10 ∧ σ 0 57 = M 0 11 ∧ σ 0 58 = M 0 12 ∧ σ 0 53 = M 0 13 ∧ ∀ p, 0 ≤ p → p < M 0 0 → σ 26 p = M 8 p ∧ σ 27 p = M 9 p) ∧
  (σ 0 6 = M 0 14 ∧ (∀ i, i < M 0 14 → zand (σ 1 i) 255 = M 10 i) ∧ (∀ i, -128 ≤ σ 1 i ∧ σ 1 i ≤ 127) ∧ ∀ i, σ 17 i = 0)
/-- what the class's parish lies in -/
def kpC (k : Nat) (i : Int) : Prop := (k = 1 ∧ i = 1) ∨ k = 2 ∨ (14 ≤ k ∧ k < 44 ∧ ¬ (20 ≤ k ∧ k < 36 ∧ 2 ≤ k % 4))
def FrC (σ σ' : Sto) : Prop := ∀ k i, kpC k i → σ' k i = σ k i
theorem FrC.rf : FrC σ σ := fun _ _ _ => rfl
theorem FrC.tr {a b c : Sto} (h1 : FrC a b) (h2 : FrC b c) : FrC a c := fun k i h => (h2 k i h).trans (h1 k i h)
theorem FrO.c {σ σ' : Sto} (h : FrO σ σ') : FrC σ σ' := fun k i q => h k i (by unfold kpC at q; omega)
theorem FrC.rep {σ σ' : Sto} (h : FrC σ σ') (r : RepC σ M Ls) : RepC σ' M Ls := by
  unfold RepC at r ⊢
  obtain ⟨w, l, s, a1, a2, a3, a4, a5, a6, a7⟩ := r
  have e : ∀ k i, kpC k i → σ' k i = σ k i := h
  have c : ∀ (k : Nat), 14 ≤ k ∧ k < 20 ∨ 36 ≤ k ∧ k < 44 → ∀ i, σ' k i = σ k i := fun k q i => e k i (Or.inr (Or.inr (by omega)))
  refine ⟨w, ?_, ?_, ?_, ?_, ?_, ?_, ?_, ?_, ?_⟩
  · obtain ⟨h1, h2, h3, h4, h5⟩ := l
    refine ⟨by rw [c 18 (by omega)]; exact h1, h2, fun k hk => ?_, by rw [c 18 (by omega)]; exact h4, by rw [c 18 (by omega)]; exact h5⟩
    obtain ⟨q1, q2, q3, q4, q5⟩ := h3 k hk
    have e0 : ∀ i, σ' (20 + 4 * k) i = σ (20 + 4 * k) i := fun i => e _ i (Or.inr (Or.inr (by omega)))
    have e1 : ∀ i, σ' (20 + 4 * k + 1) i = σ (20 + 4 * k + 1) i := fun i => e _ i (Or.inr (Or.inr (by omega)))
    exact ⟨by rw [e0]; exact q1, q2, q3.fr e1, q4, by rw [e0]; exact q5⟩
  · simp only [c 14 (by omega), c 36 (by omega), c 18 (by omega)]; exact s
  · simp only [c 37 (by omega), c 38 (by omega)]; exact a1
  · simp only [c 15 (by omega), c 16 (by omega)]; exact a2
  · simp only [c 17 (by omega)]; exact a3
  · simp only [c 42 (by omega), c 43 (by omega)]; exact a4
  · simp only [c 39 (by omega), c 40 (by omega), c 41 (by omega)]; exact a5
  · rw [e 1 1 (Or.inl ⟨rfl, rfl⟩)]; exact a6
  · intro i hi; rw [e 2 i (Or.inr (Or.inl rfl))]; exact a7 i hi
/-- what the reference's parish lies in -/
def kpR (k : Nat) (i : Int) : Prop := (k = 0 ∧ (i = 6 ∨ i = 7 ∨ (31 ≤ i ∧ i ≤ 36) ∨ i = 48 ∨ (51 ≤ i ∧ i ≤ 53) ∨ (56 ≤ i ∧ i ≤ 59))) ∨ (1 ≤ k ∧ k ≤ 3) ∨ (k = 10 ∧ i < 6) ∨ (11 ≤ k ∧ k ≤ 14) ∨ k = 17 ∨ (24 ≤ k ∧ k ≤ 27)
def FrN (σ σ' : Sto) : Prop := ∀ k i, kpR k i → σ' k i = σ k i
theorem FrN.rf : FrN σ σ := fun _ _ _ => rfl
theorem FrN.tr {a b c : Sto} (h1 : FrN a b) (h2 : FrN b c) : FrN a c := fun k i h => (h2 k i h).trans (h1 k i h)
theorem FrD.n {σ σ' : Sto} (h : FrD σ σ') : FrN σ σ' := fun k i q => h k i (by unfold kpR at q; omega)
theorem FrN.rep {σ σ' : Sto} {t' : Nat} (h : FrN σ σ') (r : RepR t σ M Ls) (ht : t' = 1 ∨ t' = 2) (hv : ∀ k, VI (leR σ' k)) : RepR t' σ' M Ls := by
  unfold RepR at r ⊢
  obtain ⟨_, w, l, s, a1, a2, a3, a4, a5, a6, a7, a8⟩ := r
  have e : ∀ k i, kpR k i → σ' k i = σ k i := h
  have wf := w.1
  have z : ∀ i, (i = 6 ∨ i = 7 ∨ (31 ≤ i ∧ i ≤ 36) ∨ i = 48 ∨ (51 ≤ i ∧ i ≤ 53) ∨ (56 ≤ i ∧ i ≤ 59)) → σ' 0 i = σ 0 i := fun i q => e 0 i (Or.inl ⟨rfl, q⟩)
  have c : ∀ (k : Nat), 1 ≤ k ∧ k ≤ 3 ∨ 11 ≤ k ∧ k ≤ 14 ∨ k = 17 ∨ 24 ≤ k ∧ k ≤ 27 → ∀ i, σ' k i = σ k i := fun k q i => e k i (by unfold kpR; omega)
  refine ⟨ht, w, ?_, ?_, ?_, ?_, ?_, ?_, ?_, ?_, ?_, ?_⟩
  · obtain ⟨h1, h2, h3, h4, h5, h6, h7⟩ := l
    refine ⟨by rw [z 7 (by omega)]; exact h1, h2, fun k hk => ?_, by rw [z 34 (by omega)]; exact h4, by rw [z 34 (by omega)]; exact h5, fun i => by rw [c 2 (by omega)]; exact h6 i, hv⟩
    rw [c 3 (by omega), show (fun i => zand (σ' 2 (160 * k + i)) 255) = (fun i => zand (σ 2 (160 * k + i)) 255) from by funext i; rw [c 2 (by omega)]]
    exact h3 k hk
  · simp only [z 31 (by omega), z 32 (by omega), z 33 (by omega), z 34 (by omega), z 35 (by omega), z 36 (by omega), z 52 (by omega), z 51 (by omega), z 48 (by omega), z 59 (by omega)]; exact s
  · intro p h0 h1
    rw [e 10 p (by unfold kpR; omega), c 11 (by omega)]
    exact a1 p h0 h1
  · simp only [c 12 (by omega), c 13 (by omega)]; exact a2
  · simp only [c 14 (by omega)]; exact a3
  · simp only [c 24 (by omega), c 25 (by omega)]; exact a4
  · simp only [z 56 (by omega), z 57 (by omega), z 58 (by omega), z 53 (by omega), c 26 (by omega), c 27 (by omega)]; exact a5
  · rw [z 6 (by omega)]; exact a6
  · simp only [c 1 (by omega)]; exact a7
  · simp only [c 1 (by omega), c 17 (by omega)]; exact a8
theorem RepR.vi (r : RepR t σ M Ls) : ∀ k, VI (leR σ k) := r.2.2.1.2.2.2.2.2.2
theorem FrN.rep' {σ σ' : Sto} (h : FrN σ σ') (r : RepR t σ M Ls) (h4 : ∀ i, σ' 4 i = σ 4 i) : RepR t σ' M Ls := by
  refine h.rep r r.1 ?_
  rw [show leR σ' = leR σ from by funext k; unfold leR; simp only [h4]]
  exact r.vi
/-- two of the parish clash on a day -/
def od (M : Sto) (Ls : List (List Cl)) (a b x : Int) : Bool := clB (lwO Ls (M 0 3)) (M 1 a) (M 1 b) x (M 0 0)
theorem od_comm (a b x : Int) : od M Ls a b x = od M Ls b a x := clB_comm _ _ _ _ _
theorem RepC.wf (r : RepC σ M Ls) : wfM M Ls := r.1
theorem RepC.lw (r : RepC σ M Ls) : lwC σ Ls := r.2.1
theorem RepC.sc (r : RepC σ M Ls) : σ 14 0 = M 0 0 ∧ σ 14 1 = M 0 1 ∧ σ 36 0 = M 0 2 ∧ σ 18 2 = M 0 3 := ⟨r.2.2.1.1, r.2.2.1.2.1, r.2.2.1.2.2.1, r.2.2.1.2.2.2.1⟩
theorem RepC.ar (r : RepC σ M Ls) {p : Int} (h0 : 0 ≤ p) (h1 : p < M 0 0) : σ 37 p = M 1 p ∧ σ 38 p = M 2 p := r.2.2.2.1 p h0 h1
theorem RepC.ho (r : RepC σ M Ls) {p : Int} (h0 : 0 ≤ p) (h1 : p < M 0 1) : σ 15 p = M 3 p ∧ σ 16 p = M 4 p := r.2.2.2.2.1 p h0 h1
theorem RepR.z17 (r : RepR t σ M Ls) : ∀ i, σ 17 i = 0 := r.2.2.2.2.2.2.2.2.2.2.2.2
theorem RepR.wf (r : RepR t σ M Ls) : wfM M Ls := r.2.1
theorem RepR.lw (r : RepR t σ M Ls) : lwR σ Ls := r.2.2.1
theorem RepR.sc (r : RepR t σ M Ls) : σ 0 31 = M 0 0 ∧ σ 0 32 = M 0 1 ∧ σ 0 33 = M 0 2 ∧ σ 0 34 = M 0 3 := ⟨r.2.2.2.1.1, r.2.2.2.1.2.1, r.2.2.2.1.2.2.1, r.2.2.2.1.2.2.2.1⟩
theorem RepR.ar (r : RepR t σ M Ls) {p : Int} (h0 : 0 ≤ p) (h1 : p < M 0 0) : σ 10 p = M 1 p ∧ σ 11 p = M 2 p := r.2.2.2.2.1 p h0 h1
theorem RepR.ho (r : RepR t σ M Ls) {p : Int} (h0 : 0 ≤ p) (h1 : p < M 0 1) : σ 12 p = M 3 p ∧ σ 13 p = M 4 p := r.2.2.2.2.2.1 p h0 h1
theorem wfM.sc (w : wfM M Ls) : 0 ≤ M 0 0 ∧ M 0 0 ≤ 6 ∧ 0 ≤ M 0 1 ∧ M 0 1 ≤ 4 ∧ (0 < M 0 0 → 0 < M 0 1) ∧ 0 ≤ M 0 2 ∧ M 0 2 ≤ 9999 := ⟨w.1.1, w.1.2.1, w.1.2.2.1, w.1.2.2.2.1, w.1.2.2.2.2.1, w.1.2.2.2.2.2.1, w.1.2.2.2.2.2.2.1⟩
theorem wfM.pe (w : wfM M Ls) {p : Int} (h0 : 0 ≤ p) (h1 : p < M 0 0) : okB (M 1 p) ∧ -1 ≤ M 2 p ∧ M 2 p < M 0 1 := w.2.1 p h0 h1
theorem wfM.ho (w : wfM M Ls) {h : Int} (h0 : 0 ≤ h) (h1 : h < M 0 1) : 1 ≤ M 3 h ∧ M 3 h ≤ 6 ∧ 0 ≤ M 4 h ∧ M 4 h ≤ 99 := w.2.2.1 h h0 h1
theorem R_od {a b x : Int} {m : Nat} (hm : 33 ≤ m) (r : RepR t σ M Ls) (a0 : 0 ≤ a ∧ a < M 0 0) (b0 : 0 ≤ b ∧ b < M 0 0) (hx : okD x)
    (hQ : ∀ σ' t', RepR t' σ' M Ls → FrD σ σ' → Q (some (.inl (bz (od M Ls a b x = true)))) (shR t') σ') :
    Ex m mX12_doClash 0 [some (.inr (.inr (some 0))), some (.inl a), some (.inl b), some (.inl x), none] [] (shR t) σ Q := by
  have w := r.wf.sc
  have s := r.sc
  have ea := (r.ar a0.1 a0.2).1
  have eb := (r.ar b0.1 b0.2).1
  refine R_doClash hm r.1 r.lw ⟨a0.1, by omega⟩ ⟨b0.1, by omega⟩ (by rw [ea]; exact (r.wf.pe a0.1 a0.2).1) (by rw [eb]; exact (r.wf.pe b0.1 b0.2).1) hx (by rw [s.1]; omega) ?_
  intro σ' t' ht f l
  rw [ea, eb, s.1, s.2.2.2]
  exact hQ σ' t' (f.n.rep r ht l.2.2.2.2.2.2) f
theorem C_od {a b x : Int} {m : Nat} (hm : 3 ≤ m) (r : RepC σ M Ls) (a0 : 0 ≤ a ∧ a < M 0 0) (b0 : 0 ≤ b ∧ b < M 0 0) (hx : okD x)
    (hQ : ∀ σ', RepC σ' M Ls → FrO σ σ' → Q (some (.inl (bz (od M Ls a b x = true)))) shC σ') :
    Ex m mX6_atOdds 0 [some (.inr (.inr (some 14))), some (.inl a), some (.inl b), some (.inl x)] [] shC σ Q := by
  obtain ⟨d, rfl⟩ : ∃ d, m = d + 3 := ⟨m - 3, by omega⟩
  have w := r.wf.sc
  have s := r.sc
  have ea := (r.ar a0.1 a0.2).1
  have eb := (r.ar b0.1 b0.2).1
  have a1 : a < 6 := by omega
  have b1 : b < 6 := by omega
  simp only [sX6_atOdds_0, sX6_atOdds_1, sX6_atOdds_4, sX6_atOdds_5, sX6_atOdds_8, sX6_atOdds_11, sX6_atOdds_12, sX6_atOdds_13, sX6_atOdds_14, sX6_atOdds_17, sX6_atOdds_20, sX6_atOdds_21, sX6_atOdds_22, sX6_atOdds_23, sX6_atOdds_24, sX6_atOdds_27, sX6_atOdds_30, up_s, up_k, up_i, clr_n, clr_i, clr_j, clr_r, catS_n, catS_i, catS_j, catS_r, Option.toList_some, Option.toList_none, List.cons_append, List.nil_append, List.singleton_append, true_and, and_true, ne_eq, not_false_eq_true, not_true_eq_false, reduceCtorEq, if_true, if_false, true_or, or_true, false_or, or_false, Nat.reduceLT, Nat.reduceEqDiff, Nat.reduceAdd, Nat.reduceLeDiff, Int.reduceEq, Int.reduceNe, Int.reduceLT, Int.reduceLE, Int.reduceAdd, Int.reduceNeg, Int.reduceSub, Int.reduceMul, hC_0_0, hC_0_1, hC_0_2, hC_0_3, hC_0_4, hC_0_5, hC_0_6, hC_0_7, hC_0_8, hC_0_9, hC_0_10, hC_0_11, hC_0_12, hC_0_13, hC_0_14, hC_0_15, hC_0_16, hC_1_0, hC_1_1, hC_1_2, hC_1_3, hC_1_4, hC_1_5, hC_2_0, hC_3_0, hC_3_1, hC_3_2, hC_3_3, hC_3_4, hC_3_5, hC_3_6, hC_3_7, hC_3_8, hC_3_9, hC_3_10, hC_3_11, hC_3_12, hC_4_0, hC_5_0, hC_6_0, hC_7_0, hC_8_0, hC_9_0, hC_9_1, hC_9_2, hC_10_0, hC_10_1, hC_10_2, hC_10_3, hC_10_4, hC_10_5, hC_10_6, hC_10_7, hC_10_8, hC_11_0, hC_12_0, hC_13_0, hC_14_0, hC_14_1, hC_14_2, hC_14_3, hC_14_4, hC_14_5, hC_14_6, hC_14_7, hC_14_8, hC_14_9, hC_14_10, hC_14_11, hC_14_12, hC_14_13, hC_14_14, hC_14_15, hC_14_16, hC_14_17, hC_14_18, hC_14_19, hC_14_20, hC_14_21, hC_14_22, hC_14_23, hC_15_0, hC_16_0, hC_17_0, hC_18_0, hC_18_1, hC_18_2, hC_18_3, hC_18_4, hC_19_0, hC_20_0, hC_20_1, hC_20_2, hC_20_3, hC_20_4, hC_20_5, hC_20_6, hC_20_7, hC_20_8, hC_21_0, hC_22_0, hC_23_0, hC_24_0, hC_24_1, hC_24_2, hC_24_3, hC_24_4, hC_24_5, hC_24_6, hC_24_7, hC_24_8, hC_25_0, hC_26_0, hC_27_0, hC_28_0, hC_28_1, hC_28_2, hC_28_3, hC_28_4, hC_28_5, hC_28_6, hC_28_7, hC_28_8, hC_29_0, hC_30_0, hC_31_0, hC_32_0, hC_32_1, hC_32_2, hC_32_3, hC_32_4, hC_32_5, hC_32_6, hC_32_7, hC_32_8, hC_33_0, hC_34_0, hC_35_0, hC_36_0, hC_36_1, hC_36_2, hC_36_3, hC_36_4, hC_36_5, hC_36_6, hC_36_7, hC_36_8, hC_37_0, hC_38_0, hC_39_0, hC_39_1, hC_39_2, hC_39_3, hC_39_4, hC_39_5, hC_39_6, hC_39_7, hC_39_8, hC_40_0, hC_41_0, hC_42_0, hC_43_0, hC_44_0, hC_45_0, hC_45_1, hC_45_2, hC_45_3, hC_45_4, hC_45_5, hC_46_0, hC_47_0, hC_47_1, hC_47_2, hC_47_3, hC_47_4, hC_47_5, hC_47_6, hC_47_7, hC_47_8, hC_47_9, hC_47_10, hC_47_11, hC_47_12, hC_47_13, hC_48_0, hC_49_0, hC_50_0, hC_51_0, hC_52_0, hC_52_1, hC_52_2, hC_52_3, hC_52_4, hC_52_5, hC_52_6, hC_52_7, hC_52_8, hC_52_9, hC_52_10, hC_52_11, hC_52_12, hC_52_13, hC_53_0, hC_54_0, hC_55_0, hC_56_0, hC_57_0, hC_58_0, hC_58_1, hC_58_2, hC_59_0, a0.1, b0.1, a1, b1, ea, eb, s.1]
  refine C_forbid (by omega) r.lw (r.wf.pe a0.1 a0.2).1 (r.wf.pe b0.1 b0.2).1 hx (by omega) ?_
  intro σ' f
  simp only [sX6_atOdds_0, sX6_atOdds_1, sX6_atOdds_4, sX6_atOdds_5, sX6_atOdds_8, sX6_atOdds_11, sX6_atOdds_12, sX6_atOdds_13, sX6_atOdds_14, sX6_atOdds_17, sX6_atOdds_20, sX6_atOdds_21, sX6_atOdds_22, sX6_atOdds_23, sX6_atOdds_24, sX6_atOdds_27, sX6_atOdds_30, up_s, up_k, up_i, clr_n, clr_i, clr_j, clr_r, catS_n, catS_i, catS_j, catS_r, Option.toList_some, Option.toList_none, List.cons_append, List.nil_append, List.singleton_append, true_and, and_true, ne_eq, not_false_eq_true, not_true_eq_false, reduceCtorEq, if_true, if_false, true_or, or_true, false_or, or_false, Nat.reduceLT, Nat.reduceEqDiff, Nat.reduceAdd, Nat.reduceLeDiff, Int.reduceEq, Int.reduceNe, Int.reduceLT, Int.reduceLE, Int.reduceAdd, Int.reduceNeg, Int.reduceSub, Int.reduceMul, hC_0_0, hC_0_1, hC_0_2, hC_0_3, hC_0_4, hC_0_5, hC_0_6, hC_0_7, hC_0_8, hC_0_9, hC_0_10, hC_0_11, hC_0_12, hC_0_13, hC_0_14, hC_0_15, hC_0_16, hC_1_0, hC_1_1, hC_1_2, hC_1_3, hC_1_4, hC_1_5, hC_2_0, hC_3_0, hC_3_1, hC_3_2, hC_3_3, hC_3_4, hC_3_5, hC_3_6, hC_3_7, hC_3_8, hC_3_9, hC_3_10, hC_3_11, hC_3_12, hC_4_0, hC_5_0, hC_6_0, hC_7_0, hC_8_0, hC_9_0, hC_9_1, hC_9_2, hC_10_0, hC_10_1, hC_10_2, hC_10_3, hC_10_4, hC_10_5, hC_10_6, hC_10_7, hC_10_8, hC_11_0, hC_12_0, hC_13_0, hC_14_0, hC_14_1, hC_14_2, hC_14_3, hC_14_4, hC_14_5, hC_14_6, hC_14_7, hC_14_8, hC_14_9, hC_14_10, hC_14_11, hC_14_12, hC_14_13, hC_14_14, hC_14_15, hC_14_16, hC_14_17, hC_14_18, hC_14_19, hC_14_20, hC_14_21, hC_14_22, hC_14_23, hC_15_0, hC_16_0, hC_17_0, hC_18_0, hC_18_1, hC_18_2, hC_18_3, hC_18_4, hC_19_0, hC_20_0, hC_20_1, hC_20_2, hC_20_3, hC_20_4, hC_20_5, hC_20_6, hC_20_7, hC_20_8, hC_21_0, hC_22_0, hC_23_0, hC_24_0, hC_24_1, hC_24_2, hC_24_3, hC_24_4, hC_24_5, hC_24_6, hC_24_7, hC_24_8, hC_25_0, hC_26_0, hC_27_0, hC_28_0, hC_28_1, hC_28_2, hC_28_3, hC_28_4, hC_28_5, hC_28_6, hC_28_7, hC_28_8, hC_29_0, hC_30_0, hC_31_0, hC_32_0, hC_32_1, hC_32_2, hC_32_3, hC_32_4, hC_32_5, hC_32_6, hC_32_7, hC_32_8, hC_33_0, hC_34_0, hC_35_0, hC_36_0, hC_36_1, hC_36_2, hC_36_3, hC_36_4, hC_36_5, hC_36_6, hC_36_7, hC_36_8, hC_37_0, hC_38_0, hC_39_0, hC_39_1, hC_39_2, hC_39_3, hC_39_4, hC_39_5, hC_39_6, hC_39_7, hC_39_8, hC_40_0, hC_41_0, hC_42_0, hC_43_0, hC_44_0, hC_45_0, hC_45_1, hC_45_2, hC_45_3, hC_45_4, hC_45_5, hC_46_0, hC_47_0, hC_47_1, hC_47_2, hC_47_3, hC_47_4, hC_47_5, hC_47_6, hC_47_7, hC_47_8, hC_47_9, hC_47_10, hC_47_11, hC_47_12, hC_47_13, hC_48_0, hC_49_0, hC_50_0, hC_51_0, hC_52_0, hC_52_1, hC_52_2, hC_52_3, hC_52_4, hC_52_5, hC_52_6, hC_52_7, hC_52_8, hC_52_9, hC_52_10, hC_52_11, hC_52_12, hC_52_13, hC_53_0, hC_54_0, hC_55_0, hC_56_0, hC_57_0, hC_58_0, hC_58_1, hC_58_2, hC_59_0]
  rw [s.2.2.2]
  exact ⟨bz_01 _, hQ σ' (f.c.rep r) f⟩
end
