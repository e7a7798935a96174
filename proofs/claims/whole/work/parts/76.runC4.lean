section
variable {d : Nat} {sh : List Kd} {σ : Sto} {Q : Option AV → List Kd → Sto → Prop} {ρ : Int → Int} {p : Nat} {a1 a2 a3 a4 a5 len : Int}
/-- a sum, and the answer behind it -/
theorem C_sumAns (hp : isPr p) (hlen : len ≤ 160) (hρ : ∀ k, VI (ρ k)) {s : List Int} {a k : Int} {x9 x10 : Option AV} (hc : coS σ (p + 1) a (s ++ [16])) (a0 : 0 ≤ a) (ha : a + s.length + 1 ≤ len) (hl : σ p 1 = len) (k0 : 0 ≤ k) (k1 : k ≤ a) (hg : gw 30 s) (hle : ∀ i : Int, 0 ≤ i → i < 5 → σ (p + 3) i = ρ i)
    (hQ : ∀ σ', FrS p σ σ' → Q (some (.inl (vlS ρ s))) shC σ') : Ex (d + 1) mX8_worthFor 46 [some (.inr (.inr (some p))), some (.inl a1), some (.inl a2), some (.inl a3), some (.inl a4), some (.inl a5), some (.inl 0), some (.inl a), some (.inl k), x9, x10] [] shC σ Q := by
  obtain ⟨_, _, _, _, _, e14, e15, e16⟩ := hp.f
  obtain ⟨h1, h2⟩ := hc.app
  obtain ⟨v, hv⟩ := hg.1 ρ
  have hh := hg.2.2 0 [] (by omega) trivial
  rw [List.append_nil] at hh
  have := C_run (d := d) (Q := Q) (a1 := a1) (a2 := a2) (a3 := a3) (a4 := a4) (a5 := a5) hp hlen hρ s a [] σ k x9 x10 h1 a0 (by omega) hl k0 k1 trivial hh (by simp) hg.2.1 hle (fun v h => by cases h) ?_
  · simpa using this
  · intro σ' k' y9 y10 f1 f2 f3 f4 f5
    rw [hv] at f4 ⊢
    have e1 := f4.1
    simp only [List.length_nil, Int.natCast_zero] at e1
    rw [W_ans (r := v) hp (by rw [f1 _ _ e14]; exact hl) hlen f2 (by omega) (by omega) (by omega) (by rw [f1 _ _ e15]; exact h2.tl.1) (by simp) (by simp) (by simpa using e1)]
    rw [← hv.vl]
    exact hQ σ' f1
theorem C_prog (hp : isPr p) (hlen : len ≤ 160) (hρ : ∀ k, VI (ρ k)) : ∀ (cs : List (Option (List Int) × List Int)) (L : Int) (σ : Sto) (k : Int) (x9 x10 : Option AV), coS σ (p + 1) L (cdL L cs) → 0 ≤ L → L + (cdL L cs).length = len → σ p 1 = len → 0 ≤ k → k ≤ L → (∀ i : Int, 0 ≤ i → i < 5 → σ (p + 3) i = ρ i) → (∀ c ∈ cs, gwC c) →
    (∀ σ', FrS p σ σ' → Q (some (.inl ((lwV ρ cs).getD 0))) shC σ') →
    Ex (d + 1) mX8_worthFor 46 [some (.inr (.inr (some p))), some (.inl a1), some (.inl a2), some (.inl a3), some (.inl a4), some (.inl a5), some (.inl 0), some (.inl L), some (.inl k), x9, x10] [] shC σ Q := by
  obtain ⟨_, _, _, _, _, e14, e15, e16⟩ := hp.f
  intro cs
  induction cs with
  | nil =>
    intro L σ k x9 x10 hc L0 L1 hl k0 k1 hle hg hQ
    rw [W_end hp hl (by simp only [cdL, List.length_nil] at L1; omega)]
    exact hQ σ FrS.rf
  | cons c cs ih =>
    intro L σ k x9 x10 hc L0 L1 hl k0 k1 hle hg hQ
    have hgc := hg c (List.mem_cons_self ..)
    have hg2 : ∀ e ∈ cs, gwC e := fun e he => hg e (List.mem_cons_of_mem _ he)
    rw [cdL] at hc L1
    obtain ⟨hc1, hc2⟩ := hc.app
    rw [List.length_append] at L1
    obtain ⟨o, s⟩ := c
    cases o with
    | none =>
      simp only [cdC] at hc1 L1
      rw [List.length_append, List.length_singleton] at L1
      refine C_sumAns hp hlen hρ hc1 L0 (by omega) hl k0 k1 hgc.1 hle (fun σ' f => ?_)
      exact hQ σ' f
    | some w =>
      have hgw := hgc.2 w rfl
      obtain ⟨v, hv⟩ := hgw.1 ρ
      have hh := hgw.2.2 0 [] (by omega) trivial
      rw [List.append_nil] at hh
      have hcl : ((cdC L (some w, s)).length : Int) = w.length + 3 + s.length := by simp only [cdC, List.length_append, List.length_cons, List.length_nil]; omega
      generalize hG : L + w.length + 3 + s.length = G at *
      simp only [cdC] at hc1
      obtain ⟨hw1, hw2⟩ := hc1.app
      rw [hG] at hw2
      have hw3 : coS σ (p + 1) (L + w.length) (15 :: G :: (s ++ [16])) := hw2
      obtain ⟨t1, t2⟩ := hw3.tl
      obtain ⟨t3, t4⟩ := t2.tl
      have := C_run (d := d) (Q := Q) (a1 := a1) (a2 := a2) (a3 := a3) (a4 := a4) (a5 := a5) hp hlen hρ w L [] σ k x9 x10 hw1 L0 (by omega) hl k0 k1 trivial hh (by simp) hgw.2.1 hle (fun v h => by cases h) ?_
      · simpa using this
      · intro σ' k' y9 y10 f1 f2 f3 f4 f5
        rw [hv] at f4 ⊢
        have e1 := f4.1
        simp only [List.length_nil, Int.natCast_zero] at e1
        have hl' : σ' p 1 = len := by rw [f1 _ _ e14]; exact hl
        rw [W_br (r := v) hp hl' hlen f2 (by omega) (by omega) (by omega) (by rw [f1 _ _ e15]; exact t1) (by simp) (by simp) (by simpa using e1)]
        rw [show (([v] : List Int).length : Int) - 1 = 0 from by simp]
        have hcv : clV ρ (some w, s) = if v = 0 then none else some (vlS ρ s) := by unfold clV; simp only; rw [hv.vl]
        by_cases c : v = 0
        · rw [if_pos c, f1 _ _ e15, t3]
          have q := ih (L + ((cdC L (some w, s)).length : Int)) σ' (k' + 1) (some (.inl 15)) (some (.inl v)) (hc2.fr (fun i => f1 _ i e15)) (by omega) (by omega) hl' (by omega) (by omega) (fun i h0 h1 => by rw [f1 _ _ e16]; exact hle i h0 h1) hg2 (fun σ2 g => ?_)
          · rw [show L + ((cdC L (some w, s)).length : Int) = G by omega] at q
            exact q
          · have := hQ σ2 (f1.tr g)
            unfold lwV at this
            rw [hcv, if_pos c] at this
            exact this
        · rw [if_neg c]
          have hc4 : coS σ' (p + 1) (L + w.length + 2) (s ++ [16]) := by
            rw [show L + (w.length : Int) + 2 = L + w.length + 1 + 1 by omega]
            exact t4.fr (fun i => f1 _ i e15)
          refine C_sumAns hp hlen hρ hc4 (by omega) (by omega) hl' (by omega) (by omega) hgc.1 (fun i h0 h1 => by rw [f1 _ _ e16]; exact hle i h0 h1) (fun σ2 g => ?_)
          have := hQ σ2 (f1.tr g)
          unfold lwV at this
          rw [hcv, if_neg c] at this
          exact this
/-- the letters of a law -/
def le5 (a b x y n : Int) (k : Int) : Int := if k = 0 then a else if k = 1 then b else if k = 2 then x else if k = 3 then y else n
theorem leR_5 : leR σ = le5 (σ 4 97) (σ 4 98) (σ 4 120) (σ 4 121) (σ 4 110) := rfl
def FrL (p : Nat) (σ σ' : Sto) : Prop := ∀ k i, k ≠ p + 2 → k ≠ p + 3 → σ' k i = σ k i
theorem C_worthFor {cs : List (Option (List Int) × List Int)} {m : Nat} (hm : 1 ≤ m) (hp : isPr p) (hρ : ∀ k, VI (le5 a1 a2 a3 a4 a5 k)) (hl : σ p 1 = (cdL 0 cs).length) (h160 : (cdL 0 cs).length ≤ 160) (hc : coS σ (p + 1) 0 (cdL 0 cs)) (hg : ∀ c ∈ cs, gwC c)
    (hQ : ∀ σ', FrL p σ σ' → Q (some (.inl ((lwV (le5 a1 a2 a3 a4 a5) cs).getD 0))) shC σ') : Ex m mX8_worthFor 0 [some (.inr (.inr (some p))), some (.inl a1), some (.inl a2), some (.inl a3), some (.inl a4), some (.inl a5), none, none, none, none, none] [] shC σ Q := by
  obtain ⟨d, rfl⟩ : ∃ d, m = d + 1 := ⟨m - 1, by omega⟩
  obtain ⟨⟨e1, e2, e3, e4, e5, e6, e7⟩, ⟨e8, e9, e10⟩, e11, e12, e13, e14, e15, e16⟩ := hp.f
  rw [sX8_worthFor_0]
  simp only [sX8_worthFor_1, sX8_worthFor_4, sX8_worthFor_5, sX8_worthFor_6, sX8_worthFor_7, sX8_worthFor_8, sX8_worthFor_11, sX8_worthFor_12, sX8_worthFor_13, sX8_worthFor_14, sX8_worthFor_15, sX8_worthFor_18, sX8_worthFor_19, sX8_worthFor_20, sX8_worthFor_21, sX8_worthFor_22, sX8_worthFor_25, sX8_worthFor_26, sX8_worthFor_28, sX8_worthFor_29, sX8_worthFor_30, sX8_worthFor_33, sX8_worthFor_34, sX8_worthFor_36, sX8_worthFor_37, sX8_worthFor_38, sX8_worthFor_40, sX8_worthFor_41, sX8_worthFor_43, sX8_worthFor_44, sX8_worthFor_48, sX8_worthFor_49, sX8_worthFor_52, sX8_worthFor_55, sX8_worthFor_57, sX8_worthFor_60, sX8_worthFor_62, sX8_worthFor_63, sX8_worthFor_66, sX8_worthFor_69, sX8_worthFor_70, sX8_worthFor_73, sX8_worthFor_75, sX8_worthFor_76, sX8_worthFor_78, sX8_worthFor_81, sX8_worthFor_83, sX8_worthFor_85, sX8_worthFor_88, sX8_worthFor_90, sX8_worthFor_93, sX8_worthFor_95, sX8_worthFor_96, sX8_worthFor_99, sX8_worthFor_101, sX8_worthFor_103, sX8_worthFor_106, sX8_worthFor_107, sX8_worthFor_108, sX8_worthFor_109, sX8_worthFor_112, sX8_worthFor_114, sX8_worthFor_116, sX8_worthFor_118, sX8_worthFor_121, sX8_worthFor_123, sX8_worthFor_125, sX8_worthFor_126, sX8_worthFor_129, sX8_worthFor_130, sX8_worthFor_133, sX8_worthFor_135, sX8_worthFor_136, sX8_worthFor_137, sX8_worthFor_140, sX8_worthFor_143, sX8_worthFor_145, sX8_worthFor_146, sX8_worthFor_149, sX8_worthFor_150, sX8_worthFor_151, sX8_worthFor_152, sX8_worthFor_155, sX8_worthFor_157, sX8_worthFor_158, sX8_worthFor_159, sX8_worthFor_160, sX8_worthFor_162, sX8_worthFor_164, sX8_worthFor_166, sX8_worthFor_169, sX8_worthFor_171, sX8_worthFor_172, sX8_worthFor_174, sX8_worthFor_176, sX8_worthFor_179, sX8_worthFor_180, sX8_worthFor_183, sX8_worthFor_185, sX8_worthFor_186, sX8_worthFor_187, sX8_worthFor_188, sX8_worthFor_190, sX8_worthFor_191, sX8_worthFor_192, sX8_worthFor_195, sX8_worthFor_198, sX8_worthFor_200, sX8_worthFor_202, sX8_worthFor_205, sX8_worthFor_207, sX8_worthFor_210, sX8_worthFor_212, sX8_worthFor_213, sX8_worthFor_216, sX8_worthFor_219, sX8_worthFor_221, sX8_worthFor_222, sX8_worthFor_223, sX8_worthFor_226, sX8_worthFor_227, sX8_worthFor_230, sX8_worthFor_232, sX8_worthFor_233, sX8_worthFor_235, sX8_worthFor_238, sX8_worthFor_240, sX8_worthFor_241, sX8_worthFor_244, sX8_worthFor_245, sX8_worthFor_248, sX8_worthFor_250, sX8_worthFor_251, sX8_worthFor_252, sX8_worthFor_254, sX8_worthFor_255, sX8_worthFor_258, sX8_worthFor_260, sX8_worthFor_261, sX8_worthFor_262, sX8_worthFor_263, sX8_worthFor_265, sX8_worthFor_268, sX8_worthFor_269, sX8_worthFor_272, sX8_worthFor_275, sX8_worthFor_276, up_s, up_k, up_i, clr_n, clr_i, clr_j, clr_r, catS_n, catS_i, catS_j, catS_r, Option.toList_some, Option.toList_none, List.cons_append, List.nil_append, List.singleton_append, true_and, and_true, ne_eq, not_false_eq_true, not_true_eq_false, reduceCtorEq, if_true, if_false, true_or, or_true, false_or, or_false, Nat.reduceLT, Nat.reduceEqDiff, Nat.reduceAdd, Nat.reduceLeDiff, Int.reduceEq, Int.reduceNe, Int.reduceLT, Int.reduceLE, Int.reduceAdd, Int.reduceNeg, Int.reduceSub, Int.reduceMul, e6, e7, e10, e13]
  have p1 : p + 1 ≠ p + 3 := by omega
  have p2 : p ≠ p + 3 := by omega
  refine C_prog hp (len := (cdL 0 cs).length) (by omega) hρ cs 0 _ 0 _ _ (hc.fr (fun i => by simp only [up_k p1])) (by omega) (by omega) (by simp only [up_k p2]; exact hl) (by omega) (by omega) ?_ hg (fun σ' f => hQ σ' (fun k i h1 h2 => ?_))
  · intro i h0 h1
    rcases (show i = 0 ∨ i = 1 ∨ i = 2 ∨ i = 3 ∨ i = 4 by omega) with rfl | rfl | rfl | rfl | rfl <;> simp only [up_s, up_k, up_i, clr_n, clr_i, clr_j, clr_r, catS_n, catS_i, catS_j, catS_r, Option.toList_some, Option.toList_none, List.cons_append, List.nil_append, List.singleton_append, true_and, and_true, ne_eq, not_false_eq_true, not_true_eq_false, reduceCtorEq, if_true, if_false, true_or, or_true, false_or, or_false, Nat.reduceLT, Nat.reduceEqDiff, Nat.reduceAdd, Nat.reduceLeDiff, Int.reduceEq, Int.reduceNe, Int.reduceLT, Int.reduceLE, Int.reduceAdd, Int.reduceNeg, Int.reduceSub, Int.reduceMul] <;> rfl
  · rw [f k i h1]
    simp only [up_k h2]
end
