-- readers agree where signs do, from the first sign on
section
variable {b b' : Int → Int} {n : Int}
theorem at0 (h : ∀ i, 0 ≤ i → i < n → b i = b' i) {i : Int} (hi : 0 ≤ i) : at_ b n i = at_ b' n i := by
  unfold at_
  by_cases c : i < n
  · rw [if_pos c, if_pos c, h i hi c]
  · rw [if_neg c, if_neg c]
theorem skp0 (h : ∀ i, 0 ≤ i → i < n → b i = b' i) : ∀ (f : Nat) (i : Int), 0 ≤ i → skp b n f i = skp b' n f i := by
  intro f
  induction f with
  | zero => intro i _; rfl
  | succ f ih =>
    intro i hi
    simp only [skp]
    by_cases c : i < n
    · rw [h i hi c, ih (i + 1) (by omega)]
    · rw [if_neg (fun q => c q.1), if_neg (fun q => c q.1)]
theorem sk0 (h : ∀ i, 0 ≤ i → i < n → b i = b' i) {i : Int} (hi : 0 ≤ i) : sk b n i = sk b' n i := skp0 h _ i hi
theorem rd0 (h : ∀ i, 0 ≤ i → i < n → b i = b' i) : ∀ (f : Nat) (i v : Int), 0 ≤ i → rdN b n f i v = rdN b' n f i v := by
  intro f
  induction f with
  | zero => intro i v _; rfl
  | succ f ih => intro i v hi; simp only [rdN]; rw [at0 h hi, ih (i + 1) _ (by omega)]
theorem pa0 (h : ∀ i, 0 ≤ i → i < n → b i = b' i) {c i : Int} (hi : 0 ≤ i) (h1 : i ≤ n) : paC b n c i = paC b' n c i := by
  have hk := sk_le (b := b') h1
  simp only [paC]
  rw [sk0 h hi, at0 h (by omega)]
def eqP (n : Int) (P P' : Ps) : Prop := ∀ i, 0 ≤ i → i ≤ n → P i = P' i
theorem eq_at (h : ∀ i, 0 ≤ i → i < n → b i = b' i) {E E' : Option Ps} (hE : match E, E' with
    | none, none => True
    | some S, some S' => eqP n S S' ∧ gdS n S'
    | _, _ => False) : eqP n (atS b n E) (atS b' n E') := by
  intro i i0 i1
  have hk := sk_le (b := b') i1
  unfold atS
  rw [sk0 h i0, at0 h (show 0 ≤ sk b' n i by omega), rd0 h 4 _ 0 (show 0 ≤ sk b' n i by omega)]
  have hr := rdN_le b' n 4 (sk b' n i) 0 hk.2
  rw [at0 h (show 0 ≤ (rdN b' n 4 (sk b' n i) 0).1 by omega)]
  by_cases c1 : at_ b' n (sk b' n i) = 91
  · rw [if_pos c1, if_pos c1]
    have hl := at_ne (by omega) c1
    cases E with
    | none => cases E' with
      | none => rfl
      | some S' => exact absurd hE id
    | some S => cases E' with
      | none => exact absurd hE id
      | some S' =>
        obtain ⟨e1, e2⟩ := hE
        have hs := e2 (sk b' n i + 1) (by omega) (by omega)
        simp only
        rw [e1 (sk b' n i + 1) (by omega) (by omega)]
        generalize S' (sk b' n i + 1) = z at *
        cases z with
        | inr j => rfl
        | inl y => obtain ⟨w, j⟩ := y; simp only at hs ⊢; rw [pa0 h (by omega) (by omega)]
  · rw [if_neg c1, if_neg c1]
theorem eq_mo (h : ∀ i, 0 ≤ i → i < n → b i = b' i) {A A' : Ps} {op : Int → Int} (hA : eqP n A A') (hg : gdS n A') (ho : opK op) : ∀ (f : Nat) (w : List Int) (i : Int), 0 ≤ i → i ≤ n → moS b n A op f w i = moS b' n A' op f w i := by
  intro f
  induction f with
  | zero => intro w i i0 i1; simp only [moS]; rw [sk0 h i0]
  | succ f ih =>
    intro w i i0 i1
    have hk := sk_le (b := b') i1
    simp only [moS]
    rw [sk0 h i0, at0 h (show 0 ≤ sk b' n i by omega)]
    by_cases c : op (at_ b' n (sk b' n i)) = -1
    · rw [if_pos c, if_pos c]
    · rw [if_neg c, if_neg c]
      have hl := op_lt ho c
      have hs := hg (sk b' n i + 1) (by omega) (by omega)
      rw [hA (sk b' n i + 1) (by omega) (by omega)]
      generalize A' (sk b' n i + 1) = z at *
      cases z with
      | inr j => rfl
      | inl y => obtain ⟨w1, j⟩ := y; simp only at hs ⊢; exact ih _ j (by omega) (by omega)
theorem eq_fi (h : ∀ i, 0 ≤ i → i < n → b i = b' i) {F F' A A' : Ps} {op : Int → Int} (hF : eqP n F F') (gF : gpS n F') (hA : eqP n A A') (hg : gdS n A') (ho : opK op) : eqP n (fiS b n F A op) (fiS b' n F' A' op) := by
  intro i i0 i1
  have hs := gF i i0 i1
  unfold fiS
  rw [hF i i0 i1]
  generalize F' i = z at *
  cases z with
  | inr j => rfl
  | inl y => obtain ⟨w, j⟩ := y; simp only at hs ⊢; exact eq_mo h hA hg ho 160 w j (by omega) (by omega)
theorem eq_on (h : ∀ i, 0 ≤ i → i < n → b i = b' i) {A A' : Ps} {op : Int → Int} (hA : eqP n A A') (hg : gdS n A') (ho : opK op) : eqP n (onS b n A op) (onS b' n A' op) := eq_fi h hA hg.gp hA hg ho
theorem eq_su (h : ∀ i, 0 ≤ i → i < n → b i = b' i) : ∀ D, eqP n (suS b n D) (suS b' n D) := by
  intro D
  induction D with
  | zero => exact eq_on h (eq_on h (eq_at h (E := none) (E' := none) trivial) (gd_at (fun S q => by cases q)) opT_k) (gd_on (b := b') (gd_at (fun S q => by cases q)) opT_k) opP_k
  | succ D ih => exact eq_on h (eq_on h (eq_at h (E := some _) (E' := some _) ⟨ih, gd_su D⟩) (gd_at (fun S q => by cases q; exact gd_su D)) opT_k) (gd_on (b := b') (gd_at (fun S q => by cases q; exact gd_su D)) opT_k) opP_k
theorem eq_re (h : ∀ i, 0 ≤ i → i < n → b i = b' i) {S S' : Ps} (hS : eqP n S S') : eqP n (reS b n S) (reS b' n S') := by
  intro i i0 i1
  have hk := sk_le (b := b') i1
  unfold reS
  rw [sk0 h i0, at0 h (show 0 ≤ sk b' n i by omega)]
  by_cases c : rlS (at_ b' n (sk b' n i)) = -1
  · rw [if_pos c, if_pos c]
  · rw [if_neg c, if_neg c]
    have hl : sk b' n i < n := by
      refine at_ne (c := at_ b' n (sk b' n i)) ?_ rfl
      intro q
      rw [q] at c
      exact c (by decide)
    rw [hS (sk b' n i + 1) (by omega) (by omega)]
theorem eq_pre {w : List Int} {P P' : Ps} (hP : eqP n P P') : eqP n (preS w P) (preS w P') := fun i i0 i1 => by unfold preS; rw [hP i i0 i1]
theorem eq_se {A A' B B' : Ps} (hA : eqP n A A') (hg : gdS n A') (hB : eqP n B B') : eqP n (seS A B) (seS A' B') := by
  intro i i0 i1
  have hs := hg i i0 i1
  unfold seS
  rw [hA i i0 i1]
  generalize A' i = z at *
  cases z with
  | inr j => rfl
  | inl y => obtain ⟨w, j⟩ := y; simp only at hs ⊢; rw [hB j (by omega) (by omega)]
theorem eq_un (h : ∀ i, 0 ≤ i → i < n → b i = b' i) {S S' : Ps} {U U' : Option Ps} (hS : eqP n S S') (gS : gdS n S') (hU : match U, U' with
    | none, none => True
    | some V, some V' => eqP n V V' ∧ gdS n V'
    | _, _ => False) : eqP n (unS b n S U) (unS b' n S' U') := by
  intro i i0 i1
  have hk := sk_le (b := b') i1
  unfold unS
  rw [sk0 h i0, at0 h (show 0 ≤ sk b' n i by omega)]
  by_cases c : at_ b' n (sk b' n i) = 33 ∨ at_ b' n (sk b' n i) = 40
  · rw [if_pos c, if_pos c]
    have hl : sk b' n i < n := by rcases c with c | c <;> exact at_ne (by omega) c
    cases U with
    | none => cases U' with
      | none => rfl
      | some V' => exact absurd hU id
    | some V => cases U' with
      | none => exact absurd hU id
      | some V' =>
        obtain ⟨e1, e2⟩ := hU
        simp only
        by_cases c1 : at_ b' n (sk b' n i) = 40
        · rw [if_pos c1, if_pos c1]
          have g2 := gd_on (b := b') (gd_on (b := b') e2 opA_k) opO_k (sk b' n i + 1) (by omega) (by omega)
          rw [eq_on h (eq_on h e1 e2 opA_k) (gd_on (b := b') e2 opA_k) opO_k (sk b' n i + 1) (by omega) (by omega)]
          generalize onS b' n (onS b' n V' opA) opO (sk b' n i + 1) = z at *
          cases z with
          | inr j => rfl
          | inl y => obtain ⟨w, j⟩ := y; simp only at g2 ⊢; rw [pa0 h (by omega) (by omega)]
        · rw [if_neg c1, if_neg c1, e1 (sk b' n i + 1) (by omega) (by omega)]
  · rw [if_neg c, if_neg c]
    exact eq_se hS gS (eq_re h hS) (sk b' n i) (by omega) (by omega)
theorem eq_ut (h : ∀ i, 0 ≤ i → i < n → b i = b' i) : ∀ D, eqP n (utS b n D) (utS b' n D) := by
  intro D
  induction D with
  | zero => exact eq_un h (U := none) (U' := none) (eq_su h 0) (gd_su 0) trivial
  | succ D ih => exact eq_un h (U := some _) (U' := some _) (eq_su h (D + 1)) (gd_su (D + 1)) ⟨ih, gd_ut D⟩
theorem gu0 (h : ∀ i, 0 ≤ i → i < n → b i = b' i) {w : List Int} {i : Int} (i0 : 0 ≤ i) (i1 : i ≤ n) : guS b n w i = guS b' n w i := by
  have hk := sk_le (b := b') i1
  unfold guS
  rw [pa0 h i0 i1]
  cases hp : paC b' n 63 i with
  | inr j => rfl
  | inl j =>
    simp only [paC] at hp
    by_cases c : at_ b' n (sk b' n i) = 63
    · rw [if_pos c] at hp
      have hl := at_ne (by omega) c
      cases hp
      simp only
      rw [eq_su h 6 (sk b' n i + 1) (by omega) (by omega)]
    · rw [if_neg c] at hp; cases hp
theorem gu_pos {w : List Int} {i : Int} (i0 : 0 ≤ i) (i1 : i ≤ n) : match guS b n w i with
    | .inl (_, j) => i ≤ j ∧ j ≤ n
    | .inr _ => True := by
  have hk := sk_le (b := b) i1
  unfold guS paC
  by_cases c : at_ b n (sk b n i) = 63
  · rw [if_pos c]
    have hl := at_ne (by omega) c
    have hs := gd_su (b := b) (n := n) 6 (sk b n i + 1) (by omega) (by omega)
    simp only
    generalize suS b n 6 (sk b n i + 1) = z at *
    cases z with
    | inr j => trivial
    | inl y => obtain ⟨s, j⟩ := y; simp only at hs ⊢; omega
  · rw [if_neg c]; trivial
theorem eq_cn (h : ∀ i, 0 ≤ i → i < n → b i = b' i) {w : List Int} : eqP n (cnS b n w) (cnS b' n w) :=
  eq_fi h (eq_fi h (eq_pre (eq_re h (eq_su h 6))) (gp_pre (gd_re (b := b') (gd_su (b := b') 6)).gp) (eq_ut h 6) (gd_ut 6) opA_k) (gp_fi (gp_pre (gd_re (b := b') (gd_su (b := b') 6)).gp) (gd_ut 6) opA_k) (eq_on h (eq_ut h 6) (gd_ut 6) opA_k) (gd_on (b := b') (gd_ut 6) opA_k) opO_k
theorem lc0 (h : ∀ i, 0 ≤ i → i < n → b i = b' i) {i : Int} (i0 : 0 ≤ i) (i1 : i ≤ n) : lcS b n i = lcS b' n i ∧ match lcS b' n i with
    | .inl (_, j) => i ≤ j ∧ j ≤ n
    | .inr _ => True := by
  have hk := sk_le (b := b') i1
  rw [lcS_eq, lcS_eq, pa0 h i0 i1]
  simp only [paC]
  by_cases c1 : at_ b' n (sk b' n i) = 121
  · rw [if_pos c1]
    have hl1 := at_ne (by omega) c1
    have hk1 := sk_le (b := b') (n := n) (i := sk b' n i + 1) (by omega)
    simp only
    rw [sk0 h (show 0 ≤ sk b' n i + 1 by omega), at0 h (show 0 ≤ sk b' n (sk b' n i + 1) by omega)]
    generalize sk b' n (sk b' n i + 1) = k at *
    by_cases c2 : at_ b' n k = 58
    · rw [if_pos c2]
      have hl2 := at_ne (by omega) c2
      have hk2 := sk_le (b := b') (n := n) (i := k + 1) (by omega)
      simp only
      rw [sk0 h (show 0 ≤ k + 1 by omega), at0 h (show 0 ≤ sk b' n (k + 1) by omega)]
      generalize sk b' n (k + 1) = k2 at *
      by_cases c3 : at_ b' n k2 = 33 ∨ at_ b' n k2 = 40
      · rw [if_pos c3, if_pos c3]
        have g2 := gd_on (b := b') (n := n) (gd_on (b := b') (gd_ut (b := b') 6) opA_k) opO_k k2 (by omega) (by omega)
        rw [eq_on h (eq_on h (eq_ut h 6) (gd_ut 6) opA_k) (gd_on (b := b') (gd_ut 6) opA_k) opO_k k2 (by omega) (by omega)]
        generalize onS b' n (onS b' n (utS b' n 6) opA) opO k2 = z at *
        cases z with
        | inr j => exact ⟨rfl, trivial⟩
        | inl y =>
          obtain ⟨w, j⟩ := y
          simp only at g2 ⊢
          have gp := gu_pos (b := b') (n := n) (w := w) (i := j) (by omega) (by omega)
          refine ⟨gu0 h (by omega) (by omega), ?_⟩
          generalize guS b' n w j = z2 at *
          cases z2 with
          | inr j => trivial
          | inl y => obtain ⟨c, j2⟩ := y; simp only at gp ⊢; omega
      · rw [if_neg c3, if_neg c3]
        have g2 := gd_su (b := b') (n := n) 6 k2 (by omega) (by omega)
        rw [eq_su h 6 k2 (by omega) (by omega)]
        generalize suS b' n 6 k2 = z at *
        cases z with
        | inr j => exact ⟨rfl, trivial⟩
        | inl y =>
          obtain ⟨w, j⟩ := y
          simp only at g2 ⊢
          have hk3 := sk_le (b := b') (n := n) (i := j) (by omega)
          rw [sk0 h (show 0 ≤ j by omega), at0 h (show 0 ≤ sk b' n j by omega)]
          generalize sk b' n j = k3 at *
          by_cases c4 : rlS (at_ b' n k3) = -1
          · rw [if_pos c4, if_pos c4]; exact ⟨rfl, by omega, by omega⟩
          · rw [if_neg c4, if_neg c4, lc_cn, lc_cn]
            have g3 := gp_cn (b := b') (n := n) (w := w) k3 (by omega) (by omega)
            rw [eq_cn h k3 (by omega) (by omega)]
            generalize cnS b' n w k3 = z at *
            cases z with
            | inr j => exact ⟨rfl, trivial⟩
            | inl y =>
              obtain ⟨w3, j5⟩ := y
              simp only at g3 ⊢
              have gp := gu_pos (b := b') (n := n) (w := w3) (i := j5) (by omega) (by omega)
              refine ⟨gu0 h (by omega) (by omega), ?_⟩
              generalize guS b' n w3 j5 = z2 at *
              cases z2 with
              | inr j => trivial
              | inl y => obtain ⟨c, j2⟩ := y; simp only at gp ⊢; omega
    · rw [if_neg c2]; exact ⟨rfl, trivial⟩
  · rw [if_neg c1]; exact ⟨rfl, trivial⟩
theorem la0 (h : ∀ i, 0 ≤ i → i < n → b i = b' i) : ∀ (f : Nat) (i : Int) (cs : List (Option (List Int) × List Int)), 0 ≤ i → i ≤ n → laS b n f i cs = laS b' n f i cs := by
  intro f
  induction f with
  | zero => intro i cs _ _; rfl
  | succ f ih =>
    intro i cs i0 i1
    have hl := lc0 h i0 i1
    simp only [laS]
    rw [hl.1]
    have hp := hl.2
    generalize lcS b' n i = z at *
    cases z with
    | inr j => rfl
    | inl y =>
      obtain ⟨c, j⟩ := y
      simp only at hp ⊢
      have hk := sk_le (b := b') (n := n) (i := j) (by omega)
      rw [sk0 h (show 0 ≤ j by omega), at0 h (show 0 ≤ sk b' n j by omega)]
      by_cases c1 : at_ b' n (sk b' n j) = -1
      · rw [if_pos c1, if_pos c1]
      · rw [if_neg c1, if_neg c1]
        by_cases c2 : at_ b' n (sk b' n j) = 59
        · rw [if_pos c2, if_pos c2]
          have := at_ne (by omega) c2
          exact ih _ _ (by omega) (by omega)
        · rw [if_neg c2, if_neg c2]
end
