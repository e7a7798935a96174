section
variable {b : Int → Int} {n : Int}
theorem paC_ok {c i : Int} (hc : c ≠ -1) (h : i ≤ n) : match paC b n c i with
    | .inl j => i < j ∧ j ≤ n
    | .inr j => i ≤ j ∧ j ≤ n := by
  have hk := sk_le (b := b) h
  unfold paC
  by_cases c1 : at_ b n (sk b n i) = c
  · rw [if_pos c1]; have := at_ne hc c1; exact ⟨by omega, by omega⟩
  · rw [if_neg c1]; exact hk
theorem gd_at {E : Option Ps} (hE : ∀ S, E = some S → gdS n S) : gdS n (atS b n E) := by
  intro i h0 h1
  have hk := sk_le (b := b) h1
  unfold atS
  by_cases c1 : at_ b n (sk b n i) = 91
  · rw [if_pos c1]
    have hl := at_ne (by omega) c1
    cases E with
    | none => exact hk
    | some S =>
      have hS := hE S rfl (sk b n i + 1) (by omega) (by omega)
      simp only
      generalize S (sk b n i + 1) = w at *
      cases w with
      | inr j => simp only at hS ⊢; omega
      | inl y =>
        obtain ⟨w, j⟩ := y
        simp only at hS ⊢
        have hp := paC_ok (b := b) (n := n) (c := 93) (i := j) (by omega) hS.2.1
        generalize paC b n 93 j = z at *
        cases z with
        | inr j1 => simp only at hp ⊢; omega
        | inl j1 => simp only at hp ⊢; exact ⟨by omega, by omega, by omega, hS.2.2.2⟩
  · rw [if_neg c1]
    by_cases c2 : ltS (at_ b n (sk b n i)) = -1
    · rw [if_pos c2]
      have hr := rdN_le b n 4 (sk b n i) 0 hk.2
      have hv := rdN_v b n 4 (sk b n i) 0 (by omega)
      have hw := rdN_hi b n 4 (sk b n i) 0
      generalize rdN b n 4 (sk b n i) 0 = r at *
      by_cases c3 : r.1 = sk b n i ∨ (48 ≤ at_ b n r.1 ∧ at_ b n r.1 ≤ 57)
      · rw [if_pos c3]; simp only; omega
      · rw [if_neg c3]
        have : ¬ r.1 = sk b n i := fun q => c3 (Or.inl q)
        refine ⟨by omega, by omega, by simp only [List.length_singleton]; omega, fun x hx => ?_⟩
        simp only [List.mem_singleton] at hx
        subst hx
        right
        omega
    · rw [if_neg c2]
      have hl : sk b n i < n := by
        by_cases q : sk b n i < n
        · exact q
        · exact absurd (by simp only [at_]; rw [if_neg q]; rfl) c2
      refine ⟨by omega, by omega, by simp only [List.length_singleton]; omega, fun x hx => ?_⟩
      simp only [List.mem_singleton] at hx
      subst hx
      left
      have := ltS_r (at_ b n (sk b n i))
      omega
/-- the signs that go between -/
def opK (op : Int → Int) : Prop := op (-1) = -1 ∧ ∀ c, op c = -1 ∨ cdK (op c)
theorem opT_k : opK opT := ⟨rfl, fun c => by unfold opT cdK; repeat' split
                                             all_goals omega⟩
theorem opP_k : opK opP := ⟨rfl, fun c => by unfold opP cdK; repeat' split
                                             all_goals omega⟩
theorem opA_k : opK opA := ⟨rfl, fun c => by unfold opA cdK; repeat' split
                                             all_goals omega⟩
theorem opO_k : opK opO := ⟨rfl, fun c => by unfold opO cdK; repeat' split
                                             all_goals omega⟩
theorem op_lt {op : Int → Int} (ho : opK op) {i : Int} (h : ¬ op (at_ b n i) = -1) : i < n := by
  by_cases q : i < n
  · exact q
  · exact absurd (by simp only [at_]; rw [if_neg q]; exact ho.1) h
theorem moS_ok {A : Ps} {op : Int → Int} (hA : gdS n A) (ho : opK op) {i0 : Int} (h0 : 0 ≤ i0) : ∀ (f : Nat) (w : List Int) (i : Int), i0 < i → i ≤ n → i0 + w.length ≤ i → (∀ x ∈ w, cdK x) → match moS b n A op f w i with
    | .inl (w', j) => i0 < j ∧ j ≤ n ∧ i0 + w'.length ≤ j ∧ ∀ x ∈ w', cdK x
    | .inr j => i0 ≤ j ∧ j ≤ n := by
  intro f
  induction f with
  | zero => intro w i h1 h2 h3 h4; have hk := sk_le (b := b) h2; exact ⟨by omega, by omega, by omega, h4⟩
  | succ f ih =>
    intro w i h1 h2 h3 h4
    have hk := sk_le (b := b) h2
    simp only [moS]
    by_cases c : op (at_ b n (sk b n i)) = -1
    · rw [if_pos c]; exact ⟨by omega, by omega, by omega, h4⟩
    · rw [if_neg c]
      have hl := op_lt ho c
      have hS := hA (sk b n i + 1) (by omega) (by omega)
      generalize A (sk b n i + 1) = z at *
      cases z with
      | inr j => simp only at hS ⊢; omega
      | inl y =>
        obtain ⟨w1, j⟩ := y
        simp only at hS ⊢
        refine ih _ j (by omega) (by omega) ?_ ?_
        · simp only [List.length_append, List.length_singleton]; omega
        · intro x hx
          simp only [List.mem_append, List.mem_singleton] at hx
          rcases hx with (hx | hx) | hx
          · exact h4 x hx
          · exact hS.2.2.2 x hx
          · subst hx; exact (ho.2 _).resolve_left c
theorem gd_on {A : Ps} {op : Int → Int} (hA : gdS n A) (ho : opK op) : gdS n (onS b n A op) := by
  intro i h0 h1
  have hS := hA i h0 h1
  simp only [onS]
  generalize A i = z at *
  cases z with
  | inr j => exact hS
  | inl y =>
    obtain ⟨w, j⟩ := y
    simp only at hS ⊢
    exact moS_ok hA ho h0 160 w j hS.1 hS.2.1 hS.2.2.1 hS.2.2.2
theorem gd_su : ∀ D, gdS n (suS b n D) := by
  intro D
  induction D with
  | zero => exact gd_on (gd_on (gd_at (fun S q => by cases q)) opT_k) opP_k
  | succ D ih => exact gd_on (gd_on (gd_at (fun S q => by cases q; exact ih)) opT_k) opP_k
theorem gd_re {S : Ps} (hS : gdS n S) : gdS n (reS b n S) := by
  intro i h0 h1
  have hk := sk_le (b := b) h1
  simp only [reS]
  by_cases c : rlS (at_ b n (sk b n i)) = -1
  · rw [if_pos c]; exact hk
  · rw [if_neg c]
    have hl : sk b n i < n := by
      by_cases q : sk b n i < n
      · exact q
      · exact absurd (by simp only [at_]; rw [if_neg q]; rfl) c
    have hs := hS (sk b n i + 1) (by omega) (by omega)
    generalize S (sk b n i + 1) = z at *
    cases z with
    | inr j => simp only at hs ⊢; omega
    | inl y =>
      obtain ⟨w, j⟩ := y
      simp only at hs ⊢
      refine ⟨by omega, by omega, by simp only [List.length_append, List.length_singleton]; omega, fun x hx => ?_⟩
      simp only [List.mem_append, List.mem_singleton] at hx
      rcases hx with hx | hx
      · exact hs.2.2.2 x hx
      · subst hx; left; have := rlS_r (at_ b n (sk b n i)); omega
theorem gd_se {A B : Ps} (hA : gdS n A) (hB : gdS n B) : gdS n (seS A B) := by
  intro i h0 h1
  have ha := hA i h0 h1
  simp only [seS]
  generalize A i = z at *
  cases z with
  | inr j => exact ha
  | inl y =>
    obtain ⟨w, j⟩ := y
    simp only at ha ⊢
    have hb := hB j (by omega) ha.2.1
    generalize B j = z at *
    cases z with
    | inr j1 => simp only at hb ⊢; omega
    | inl y =>
      obtain ⟨w1, j1⟩ := y
      simp only at hb ⊢
      refine ⟨by omega, by omega, by simp only [List.length_append]; omega, fun x hx => ?_⟩
      simp only [List.mem_append] at hx
      rcases hx with hx | hx
      · exact ha.2.2.2 x hx
      · exact hb.2.2.2 x hx
theorem gd_un {S : Ps} {U : Option Ps} (hS : gdS n S) (hU : ∀ V, U = some V → gdS n V) : gdS n (unS b n S U) := by
  intro i h0 h1
  have hk := sk_le (b := b) h1
  simp only [unS]
  by_cases c : at_ b n (sk b n i) = 33 ∨ at_ b n (sk b n i) = 40
  · rw [if_pos c]
    have hl : sk b n i < n := by rcases c with c | c <;> exact at_ne (by omega) c
    cases U with
    | none => exact hk
    | some V =>
      simp only
      by_cases c1 : at_ b n (sk b n i) = 40
      · rw [if_pos c1]
        have hs := gd_on (b := b) (gd_on (b := b) (hU V rfl) opA_k) opO_k (sk b n i + 1) (by omega) (by omega)
        generalize onS b n (onS b n V opA) opO (sk b n i + 1) = z at *
        cases z with
        | inr j => simp only at hs ⊢; omega
        | inl y =>
          obtain ⟨w, j⟩ := y
          simp only at hs ⊢
          have hp := paC_ok (b := b) (n := n) (c := 41) (i := j) (by omega) hs.2.1
          generalize paC b n 41 j = z at *
          cases z with
          | inr j1 => simp only at hp ⊢; omega
          | inl j1 => simp only at hp ⊢; exact ⟨by omega, by omega, by omega, hs.2.2.2⟩
      · rw [if_neg c1]
        have hs := hU V rfl (sk b n i + 1) (by omega) (by omega)
        generalize V (sk b n i + 1) = z at *
        cases z with
        | inr j => simp only at hs ⊢; omega
        | inl y =>
          obtain ⟨w, j⟩ := y
          simp only at hs ⊢
          refine ⟨by omega, by omega, by simp only [List.length_append, List.length_singleton]; omega, fun x hx => ?_⟩
          simp only [List.mem_append, List.mem_singleton] at hx
          rcases hx with hx | hx
          · exact hs.2.2.2 x hx
          · subst hx; left; omega
  · rw [if_neg c]
    have := gd_se hS (gd_re (b := b) hS) (sk b n i) (by omega) (by omega)
    generalize seS S (reS b n S) (sk b n i) = z at *
    cases z with
    | inr j => simp only at this ⊢; omega
    | inl y => obtain ⟨w, j⟩ := y; simp only at this ⊢; exact ⟨by omega, by omega, by omega, this.2.2.2⟩
theorem gd_ut : ∀ D, gdS n (utS b n D) := by
  intro D
  induction D with
  | zero => exact gd_un (gd_su 0) (fun S q => by cases q)
  | succ D ih => exact gd_un (gd_su (D + 1)) (fun S q => by cases q; exact ih)
end
