section
variable {d : Nat} {sh : List Kd} {σ : Sto} {Q : Option AV → List Kd → Sto → Prop} {ρ : Int → Int} {p : Nat} {a1 a2 a3 a4 a5 len : Int}
theorem stk.fr {q : Nat} {σ' : Sto} : ∀ {st : List Int}, stk σ q st → (∀ i, σ' q i = σ q i) → stk σ' q st := by
  intro st
  induction st with
  | nil => intro _ _; trivial
  | cons u st ih => intro h hi; exact ⟨by rw [hi]; exact h.1, ih h.2 hi⟩
/-- where the steps of a program lie -/
def coS (σ : Sto) (q : Nat) (a : Int) (w : List Int) : Prop := ∀ i : Nat, i < w.length → σ q (a + i) = w.getD i 0
theorem coS.tl {q : Nat} {a x : Int} {w : List Int} (h : coS σ q a (x :: w)) : σ q a = x ∧ coS σ q (a + 1) w := by
  refine ⟨?_, fun i hi => ?_⟩
  · have := h 0 (by simp)
    simpa using this
  · have := h (i + 1) (by simp only [List.length_cons]; omega)
    rw [show a + ((i + 1 : Nat) : Int) = a + 1 + i by omega] at this
    rw [this]; rfl
theorem coS.app {q : Nat} {a : Int} {w w1 : List Int} (h : coS σ q a (w ++ w1)) : coS σ q a w ∧ coS σ q (a + w.length) w1 := by
  refine ⟨fun i hi => ?_, fun i hi => ?_⟩
  · have := h i (by rw [List.length_append]; omega)
    rw [this]
    simp only [List.getD, List.getElem?_append_left hi]
  · have := h (w.length + i) (by rw [List.length_append]; omega)
    rw [show a + ((w.length + i : Nat) : Int) = a + w.length + i by omega] at this
    rw [this]
    simp only [List.getD, List.getElem?_append_right (Nat.le_add_right _ _), Nat.add_sub_cancel_left]
theorem coS.fr {q : Nat} {a : Int} {w : List Int} {σ' : Sto} (h : coS σ q a w) (hf : ∀ i, σ' q i = σ q i) : coS σ' q a w := fun i hi => by rw [hf]; exact h i hi
def bdS (a : Int) (st : List Int) : Prop := ∀ v ∈ st, -2000000000 - a ≤ v ∧ v ≤ 2000000000 + a
/-- a run of steps without branches -/
theorem C_run (hp : isPr p) (hlen : len ≤ 160) (hρ : ∀ k, VI (ρ k)) : ∀ (w : List Int) (a : Int) (st : List Int) (σ : Sto) (k : Int) (x9 x10 : Option AV), coS σ (p + 1) a w → 0 ≤ a → a + w.length ≤ len → σ p 1 = len → 0 ≤ k → k ≤ a → stk σ (p + 2) st → hgS w st.length → st.length ≤ 100 → (∀ x ∈ w, cdK x) → (∀ i : Int, 0 ≤ i → i < 5 → σ (p + 3) i = ρ i) → bdS a st →
    (∀ σ' k' x9 x10, FrS p σ σ' → 0 ≤ k' → k' ≤ a + w.length → stk σ' (p + 2) (rnS ρ w st) → bdS (a + w.length) (rnS ρ w st) → Ex (d + 1) mX8_worthFor 46 [some (.inr (.inr (some p))), some (.inl a1), some (.inl a2), some (.inl a3), some (.inl a4), some (.inl a5), some (.inl ((rnS ρ w st).length : Int)), some (.inl (a + w.length)), some (.inl k'), x9, x10] [] shC σ' Q) →
    Ex (d + 1) mX8_worthFor 46 [some (.inr (.inr (some p))), some (.inl a1), some (.inl a2), some (.inl a3), some (.inl a4), some (.inl a5), some (.inl (st.length : Int)), some (.inl a), some (.inl k), x9, x10] [] shC σ Q := by
  obtain ⟨_, _, _, _, _, e14, e15, e16⟩ := hp.f
  intro w
  induction w with
  | nil =>
    intro a st σ k x9 x10 hc a0 a1' hl k0 k1 hs hg h100 hw hle hb hQ
    have := hQ σ k x9 x10 FrS.rf k0 (by simp only [List.length_nil]; omega) hs (by rw [List.length_nil, show a + ((0 : Nat) : Int) = a by omega]; exact hb)
    simp only [List.length_nil, Int.natCast_zero, Int.add_zero] at this
    exact this
  | cons x w ih =>
    intro a st σ k x9 x10 hc a0 a1' hl k0 k1 hs hg h100 hw hle hb hQ
    obtain ⟨hx, hc2⟩ := hc.tl
    simp only [List.length_cons] at a1' hQ
    have hxk := hw x (List.mem_cons_self ..)
    have hw2 : ∀ y ∈ w, cdK y := fun y hy => hw y (List.mem_cons_of_mem _ hy)
    unfold hgS at hg
    have step : ∀ (st2 : List Int) (τ : Sto) (k2 : Int) (y9 y10 : Option AV), stS ρ x st = st2 → FrS p σ τ → k2 = k + 1 → stk τ (p + 2) st2 → hgS w st2.length → st2.length ≤ 100 → bdS (a + 1) st2 → Ex (d + 1) mX8_worthFor 46 [some (.inr (.inr (some p))), some (.inl a1), some (.inl a2), some (.inl a3), some (.inl a4), some (.inl a5), some (.inl (st2.length : Int)), some (.inl (a + 1)), some (.inl k2), y9, y10] [] shC τ Q := by
      intro st2 τ k2 y9 y10 e1 e2 e3 e4 e5 e6 e7
      refine ih (a + 1) st2 τ k2 y9 y10 (hc2.fr (fun i => e2 _ i e15)) (by omega) (by omega) (by rw [e2 _ _ e14]; exact hl) (by omega) (by omega) e4 e5 e6 hw2 (fun i h0 h1 => by rw [e2 _ _ e16]; exact hle i h0 h1) e7 ?_
      intro σ' k' z9 z10 g1 g2 g3 g4 g5
      have hrn : rnS ρ (x :: w) st = rnS ρ w st2 := by rw [← e1]; rfl
      have := hQ σ' k' z9 z10 (e2.tr g1) g2 (by omega) (by rw [hrn]; exact g4) (by rw [hrn, show a + ((w.length + 1 : Nat) : Int) = a + 1 + w.length by omega]; exact g5)
      rw [hrn, show a + ((w.length + 1 : Nat) : Int) = a + 1 + w.length by omega] at this
      exact this
    by_cases c : 100 ≤ x ∨ x < 5
    · rw [if_pos c] at hg
      have hx2 : (0 ≤ x ∧ x < 5) ∨ (100 ≤ x ∧ x ≤ 10099) := by unfold cdK at hxk; omega
      rw [W_push hp hl hlen k0 (by omega) a0 (by omega) hx hx2 (by omega) (by omega)]
      have e : stS ρ x st = (if 100 ≤ x then x - 100 else σ (p + 3) x) :: st := by
        unfold stS
        by_cases c1 : 100 ≤ x
        · rw [if_pos c1, if_pos c1]
        · rw [if_neg c1, if_pos (by omega), if_neg c1, hle x (by omega) (by omega)]
      have := step _ (up σ (p + 2) st.length (if 100 ≤ x then x - 100 else σ (p + 3) x)) (k + 1) (some (.inl x)) x10 e FrS.rf.up rfl ⟨by rw [up_s], hs.up (by omega)⟩ (by simpa using hg.2) (by simp only [List.length_cons]; omega) (by
        intro v hv
        rw [List.mem_cons] at hv
        rcases hv with hv | hv
        · by_cases c1 : 100 ≤ x
          · rw [if_pos c1] at hv; omega
          · rw [if_neg c1, hle x (by omega) (by omega)] at hv
            have := hρ x
            unfold VI at this
            omega
        · have := hb v hv; omega)
      simp only [List.length_cons] at this
      exact this
    · rw [if_neg c] at hg
      by_cases c14 : x = 14
      · rw [if_pos c14] at hg
        subst c14
        cases st with
        | nil => exact absurd hg.1 (by simp)
        | cons r st =>
          have hr : σ (p + 2) (((r :: st).length : Int) - 1) = r := by
            simp only [List.length_cons]
            rw [show ((st.length + 1 : Nat) : Int) - 1 = st.length by omega]
            exact hs.1
          have hbr := hb r (List.mem_cons_self ..)
          rw [W_not hp hl hlen k0 (by omega) a0 (by omega) hx (by simp only [List.length_cons]; omega) (by omega) hr (by omega)]
          have := step ((1 - r) :: st) (up σ (p + 2) (((r :: st).length : Int) - 1) (1 - r)) (k + 1) (some (.inl 14)) (some (.inl r)) rfl FrS.rf.up rfl ⟨by
              simp only [List.length_cons]
              rw [show ((st.length + 1 : Nat) : Int) - 1 = st.length by omega, up_s], hs.2.up (by simp only [List.length_cons]; omega)⟩ (by simpa using hg.2) (by simpa using h100) (by
            intro v hv
            rw [List.mem_cons] at hv
            rcases hv with hv | hv
            · omega
            · have := hb v (List.mem_cons_of_mem _ hv); omega)
          exact this
      · rw [if_neg c14] at hg
        have hx3 : 5 ≤ x ∧ x < 14 := by unfold cdK at hxk; omega
        match st, hs, hg, h100, hb, step with
        | [], _, hg, _, _, _ => exact absurd hg.1 (by simp)
        | [r], _, hg, _, _, _ => exact absurd hg.1 (by simp)
        | r :: l :: st, hs, hg, h100, hb, step =>
          have hr : σ (p + 2) (((r :: l :: st).length : Int) - 1) = r := by
            have := hs.1
            simp only [List.length_cons] at this ⊢
            rw [show ((st.length + 1 + 1 : Nat) : Int) - 1 = ((st.length + 1 : Nat) : Int) by omega]
            exact this
          have hl2 : σ (p + 2) (((r :: l :: st).length : Int) - 2) = l := by
            have := hs.2.1
            simp only [List.length_cons]
            rw [show ((st.length + 1 + 1 : Nat) : Int) - 2 = st.length by omega]
            exact this
          rw [W_bin hp hl hlen k0 (by omega) a0 (by omega) hx hx3 (by simp only [List.length_cons]; omega) (by omega) hr hl2]
          have := step (jnS x l r :: st) (up σ (p + 2) (((r :: l :: st).length : Int) - 2) (jnS x l r)) (k + 1) (some (.inl x)) (some (.inl r)) (by
              unfold stS
              rw [if_neg (by omega), if_neg (by omega), if_neg c14]) FrS.rf.up rfl ⟨by
              simp only [List.length_cons]
              rw [show ((st.length + 1 + 1 : Nat) : Int) - 2 = st.length by omega, up_s], hs.2.2.up (by simp only [List.length_cons]; omega)⟩ (by have := hg.2; simp only [List.length_cons] at this ⊢; exact this) (by simp only [List.length_cons] at h100 ⊢; omega) (by
            intro v hv
            rw [List.mem_cons] at hv
            rcases hv with hv | hv
            · have := VIj x l r
              unfold VI at this
              omega
            · have := hb v (List.mem_cons_of_mem _ (List.mem_cons_of_mem _ hv)); omega)
          simp only [List.length_cons] at this ⊢
          rw [show ((st.length + 1 + 1 : Nat) : Int) - 1 = ((st.length + 1 : Nat) : Int) by omega]
          exact this
end
