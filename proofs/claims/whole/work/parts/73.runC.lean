-- the class runs a program
section
variable {d : Nat} {sh : List Kd} {σ : Sto} {Q : Option AV → List Kd → Sto → Prop} {b : Int → Int} {n : Int} {ρ : Int → Int}
/-- the height of the stack is never below what is wanted, nor above the most -/
def hgS : List Int → Nat → Prop
  | [], _ => True
  | x :: w, h => if 100 ≤ x ∨ x < 5 then h < 100 ∧ hgS w (h + 1) else if x = 14 then 1 ≤ h ∧ hgS w h else 2 ≤ h ∧ hgS w (h - 1)
/-- steps that make one number, on a stack that rises by no more than H -/
def gw (H : Nat) (w : List Int) : Prop := (∀ ρ, ∃ v, mkS ρ w v) ∧ (∀ x ∈ w, cdK x) ∧ ∀ (h : Nat) (w' : List Int), h + H ≤ 100 → hgS w' (h + 1) → hgS (w ++ w') h
theorem gw.le {H K : Nat} {w : List Int} (h : gw H w) (hk : H ≤ K) : gw K w := ⟨h.1, h.2.1, fun x w' h1 h2 => h.2.2 x w' (by omega) h2⟩
theorem gw_one {x : Int} (hx : (0 ≤ x ∧ x < 5) ∨ (100 ≤ x ∧ x ≤ 10099)) : gw 1 [x] := by
  refine ⟨fun ρ => ?_, fun y hy => ?_, fun h w' h1 h2 => ?_⟩
  · by_cases c : 100 ≤ x
    · have := mk_num ρ (v := x - 100) (by omega)
      rw [show 100 + (x - 100) = x by omega] at this
      exact ⟨_, this⟩
    · exact ⟨_, mk_let ρ ⟨by omega, by omega⟩⟩
  · rw [List.mem_singleton] at hy; subst hy; unfold cdK; omega
  · show hgS (x :: w') h
    unfold hgS
    rw [if_pos (by omega)]
    exact ⟨by omega, h2⟩
theorem gw_bin {H K : Nat} {w w1 : List Int} {x : Int} (h : gw H w) (h1 : gw K w1) (hx : 5 ≤ x ∧ x < 14) : gw (max H (K + 1)) (w ++ w1 ++ [x]) := by
  refine ⟨fun ρ => ?_, fun y hy => ?_, fun a w' e1 e2 => ?_⟩
  · obtain ⟨l, hl⟩ := h.1 ρ
    obtain ⟨r, hr⟩ := h1.1 ρ
    exact ⟨_, mk_bin hl hr hx⟩
  · rw [List.mem_append, List.mem_append, List.mem_singleton] at hy
    rcases hy with (hy | hy) | hy
    · exact h.2.1 y hy
    · exact h1.2.1 y hy
    · subst hy; unfold cdK; omega
  · rw [List.append_assoc, List.append_assoc]
    refine h.2.2 a _ (by omega) (h1.2.2 (a + 1) _ (by omega) ?_)
    show hgS (x :: w') (a + 1 + 1)
    unfold hgS
    rw [if_neg (by omega), if_neg (by omega)]
    exact ⟨by omega, e2⟩
theorem gw_not {H : Nat} {w : List Int} (h : gw H w) : gw H (w ++ [14]) := by
  refine ⟨fun ρ => ?_, fun y hy => ?_, fun a w' e1 e2 => ?_⟩
  · obtain ⟨l, hl⟩ := h.1 ρ
    exact ⟨_, mk_not hl⟩
  · rw [List.mem_append, List.mem_singleton] at hy
    rcases hy with hy | hy
    · exact h.2.1 y hy
    · subst hy; unfold cdK; omega
  · rw [List.append_assoc]
    refine h.2.2 a _ (by omega) ?_
    show hgS (14 :: w') (a + 1)
    unfold hgS
    rw [if_neg (by omega), if_pos rfl]
    exact ⟨by omega, e2⟩
def gwS (H : Nat) (P : Ps) : Prop := ∀ i, match P i with
  | .inl (w, _) => gw H w
  | .inr _ => True
theorem gwS.le {H K : Nat} {P : Ps} (h : gwS H P) (hk : H ≤ K) : gwS K P := fun i => by
  have := h i
  generalize P i = z at *
  cases z with
  | inr j => trivial
  | inl y => obtain ⟨w, j⟩ := y; exact gw.le this hk
theorem gwS.of {H : Nat} {P : Ps} (h : gwS H P) {i : Int} {w : List Int} {j : Int} (e : P i = .inl (w, j)) : gw H w := by
  have := h i
  rw [e] at this
  exact this
theorem gw_at {H : Nat} {E : Option Ps} (h1 : 1 ≤ H) (hE : ∀ S, E = some S → gwS H S) : gwS H (atS b n E) := by
  intro i
  unfold atS
  by_cases c1 : at_ b n (sk b n i) = 91
  · rw [if_pos c1]
    cases E with
    | none => trivial
    | some S =>
      have := hE S rfl (sk b n i + 1)
      simp only
      generalize S (sk b n i + 1) = z at *
      cases z with
      | inr j => trivial
      | inl y =>
        obtain ⟨w, j⟩ := y
        simp only at this ⊢
        generalize paC b n 93 j = z2
        cases z2 with
        | inr j => trivial
        | inl j => exact this
  · rw [if_neg c1]
    by_cases c2 : ltS (at_ b n (sk b n i)) = -1
    · rw [if_pos c2]
      by_cases c3 : (rdN b n 4 (sk b n i) 0).1 = sk b n i ∨ (48 ≤ at_ b n (rdN b n 4 (sk b n i) 0).1 ∧ at_ b n (rdN b n 4 (sk b n i) 0).1 ≤ 57)
      · rw [if_pos c3]; trivial
      · rw [if_neg c3]
        have hv := rdN_v b n 4 (sk b n i) 0 (by omega)
        have hw := rdN_hi b n 4 (sk b n i) 0
        exact (gw_one (Or.inr ⟨by omega, by omega⟩)).le h1
    · rw [if_neg c2]
      have := ltS_r (at_ b n (sk b n i))
      exact (gw_one (Or.inl ⟨by omega, by omega⟩)).le h1
def opJ (op : Int → Int) : Prop := ∀ c, op c = -1 ∨ (5 ≤ op c ∧ op c < 14)
theorem gw_mo {H : Nat} {A : Ps} {op : Int → Int} (hA : gwS H A) (ho : opJ op) : ∀ (f : Nat) (w : List Int) (i : Int), gw (H + 1) w → match moS b n A op f w i with
    | .inl (w, _) => gw (H + 1) w
    | .inr _ => True := by
  intro f
  induction f with
  | zero => intro w i h; exact h
  | succ f ih =>
    intro w i h
    simp only [moS]
    by_cases c : op (at_ b n (sk b n i)) = -1
    · rw [if_pos c]; exact h
    · rw [if_neg c]
      have hS := hA (sk b n i + 1)
      generalize A (sk b n i + 1) = z at *
      cases z with
      | inr j => trivial
      | inl y =>
        obtain ⟨w1, j⟩ := y
        exact ih _ j ((gw_bin h hS ((ho _).resolve_left c)).le (by omega))
theorem gw_fi {H : Nat} {F A : Ps} {op : Int → Int} (hF : gwS (H + 1) F) (hA : gwS H A) (ho : opJ op) : gwS (H + 1) (fiS b n F A op) := by
  intro i
  have := hF i
  unfold fiS
  generalize F i = z at *
  cases z with
  | inr j => trivial
  | inl y =>
    obtain ⟨w, j⟩ := y
    exact gw_mo hA ho 160 w j this
theorem gw_on {H : Nat} {A : Ps} {op : Int → Int} (hA : gwS H A) (ho : opJ op) : gwS (H + 1) (onS b n A op) := gw_fi (hA.le (by omega)) hA ho
theorem opT_j : opJ opT := fun c => by unfold opT; repeat' split
                                       all_goals omega
theorem opP_j : opJ opP := fun c => by unfold opP; repeat' split
                                       all_goals omega
theorem opA_j : opJ opA := fun c => by unfold opA; repeat' split
                                       all_goals omega
theorem opO_j : opJ opO := fun c => by unfold opO; repeat' split
                                       all_goals omega
theorem gw_su : ∀ D, gwS (2 * D + 3) (suS b n D) := by
  intro D
  induction D with
  | zero => exact gw_on (gw_on (gw_at (by omega) (fun S h => by cases h)) opT_j) opP_j
  | succ D ih => exact gw_on (gw_on (gw_at (H := 2 * D + 3) (by omega) (fun S h => by cases h; exact ih)) opT_j) opP_j
theorem gw_re {H : Nat} {S : Ps} {w : List Int} (hS : gwS H S) (hw : gw (H + 1) w) : gwS (H + 1) (preS w (reS b n S)) := by
  intro i
  unfold preS reS
  have rl := rlS_r (at_ b n (sk b n i))
  by_cases c1 : rlS (at_ b n (sk b n i)) = -1
  · rw [if_pos c1]; trivial
  · rw [if_neg c1]
    have := hS (sk b n i + 1)
    generalize S (sk b n i + 1) = z at *
    cases z with
    | inr j => trivial
    | inl y =>
      obtain ⟨w1, j⟩ := y
      simp only
      rw [← List.append_assoc]
      exact (gw_bin hw this (by omega)).le (by omega)
theorem gw_se {H : Nat} {S : Ps} (hS : gwS H S) : gwS (H + 1) (seS S (reS b n S)) := by
  intro i
  have h1 := hS i
  unfold seS
  generalize S i = z at *
  cases z with
  | inr j => trivial
  | inl y =>
    obtain ⟨w, j⟩ := y
    have := gw_re (b := b) (n := n) hS (w := w) (h1.le (by omega)) j
    unfold preS at this
    simp only
    generalize reS b n S j = z2 at *
    cases z2 with
    | inr j => trivial
    | inl y => obtain ⟨w2, j2⟩ := y; exact this
theorem gw_un {H : Nat} {S : Ps} {U : Option Ps} (hS : gwS H S) (hU : ∀ V K, U = some V → K + 1 = H → gwS K V) (h1 : 1 ≤ H) : gwS (H + 1) (unS b n S U) := by
  intro i
  unfold unS
  by_cases c : at_ b n (sk b n i) = 33 ∨ at_ b n (sk b n i) = 40
  · rw [if_pos c]
    cases U with
    | none => trivial
    | some V =>
      obtain ⟨K, rfl⟩ : ∃ K, H = K + 1 := ⟨H - 1, by omega⟩
      have hV := hU V K rfl rfl
      simp only
      by_cases c1 : at_ b n (sk b n i) = 40
      · rw [if_pos c1]
        have := gw_on (b := b) (n := n) (gw_on (b := b) (n := n) hV opA_j) opO_j (sk b n i + 1)
        generalize onS b n (onS b n V opA) opO (sk b n i + 1) = z at *
        cases z with
        | inr j => trivial
        | inl y =>
          obtain ⟨w, j⟩ := y
          simp only at this ⊢
          generalize paC b n 41 j = z2
          cases z2 with
          | inr j => trivial
          | inl j => exact this
      · rw [if_neg c1]
        have := hV (sk b n i + 1)
        generalize V (sk b n i + 1) = z at *
        cases z with
        | inr j => trivial
        | inl y =>
          obtain ⟨w, j⟩ := y
          exact (gw_not this).le (by omega)
  · rw [if_neg c]
    exact gw_se hS (sk b n i)
theorem gw_ut : ∀ D, gwS (2 * D + 4) (utS b n D) := by
  intro D
  induction D with
  | zero => exact gw_un (H := 3) (gw_su 0) (fun V K h => by cases h) (by omega)
  | succ D ih => exact gw_un (H := 2 * D + 5) (gw_su (D + 1)) (fun V K h e => by cases h; exact ih.le (by omega)) (by omega)
/-- a clause is good -/
def gwC (c : Option (List Int) × List Int) : Prop := gw 30 c.2 ∧ ∀ w, c.1 = some w → gw 30 w
theorem gw_gu {w : List Int} (hw : gw 30 w) {i : Int} : match guS b n w i with
    | .inl (c, _) => gwC c
    | .inr _ => True := by
  unfold guS
  generalize paC b n 63 i = z
  cases z with
  | inr j => trivial
  | inl j =>
    have := gw_su (b := b) (n := n) 6 j
    simp only
    generalize suS b n 6 j = z at *
    cases z with
    | inr j => trivial
    | inl y =>
      obtain ⟨s, j1⟩ := y
      exact ⟨this.le (by omega), fun w' e => by cases e; exact hw⟩
theorem gw_cn {w : List Int} (hw : gw 16 w) : gwS 30 (cnS b n w) := (gw_fi (H := 17) ((gw_fi (H := 16) ((gw_re (gw_su 6) hw).le (by omega)) ((gw_ut 6).le (by omega)) opA_j).le (by omega)) (gw_on (gw_ut 6) opA_j) opO_j).le (by omega)
theorem gw_lc {i : Int} : match lcS b n i with
    | .inl (c, _) => gwC c
    | .inr _ => True := by
  rw [lcS_eq]
  generalize paC b n 121 i = z
  cases z with
  | inr j => trivial
  | inl j =>
    simp only
    generalize paC b n 58 j = z
    cases z with
    | inr j => trivial
    | inl j1 =>
      simp only
      by_cases c : at_ b n (sk b n j1) = 33 ∨ at_ b n (sk b n j1) = 40
      · rw [if_pos c]
        have := gw_on (b := b) (n := n) (gw_on (b := b) (n := n) (gw_ut (b := b) (n := n) 6) opA_j) opO_j (sk b n j1)
        generalize onS b n (onS b n (utS b n 6) opA) opO (sk b n j1) = z at *
        cases z with
        | inr j => trivial
        | inl y => obtain ⟨w, j2⟩ := y; exact gw_gu (this.le (by omega))
      · rw [if_neg c]
        have := gw_su (b := b) (n := n) 6 (sk b n j1)
        generalize suS b n 6 (sk b n j1) = z at *
        cases z with
        | inr j => trivial
        | inl y =>
          obtain ⟨w, j2⟩ := y
          simp only
          by_cases c1 : rlS (at_ b n (sk b n j2)) = -1
          · rw [if_pos c1]; exact ⟨this.le (by omega), fun w' e => by cases e⟩
          · rw [if_neg c1, lc_cn]
            have h2 := gw_cn (b := b) (n := n) (this.le (by omega)) (sk b n j2)
            generalize cnS b n w (sk b n j2) = z at *
            cases z with
            | inr j => trivial
            | inl y => obtain ⟨w3, j5⟩ := y; exact gw_gu h2
theorem gw_la : ∀ (f : Nat) (i : Int) (cs : List (Option (List Int) × List Int)), (∀ c ∈ cs, gwC c) → match laS b n f i cs with
    | .inl cs => ∀ c ∈ cs, gwC c
    | .inr _ => True := by
  intro f
  induction f with
  | zero => intro i cs h; trivial
  | succ f ih =>
    intro i cs h
    simp only [laS]
    have := gw_lc (b := b) (n := n) (i := i)
    generalize lcS b n i = z at *
    cases z with
    | inr j => trivial
    | inl y =>
      obtain ⟨c, j⟩ := y
      simp only at this ⊢
      have h2 : ∀ e ∈ cs ++ [c], gwC e := fun e he => by
        rw [List.mem_append, List.mem_singleton] at he
        rcases he with he | he
        · exact h e he
        · subst he; exact this
      by_cases c1 : at_ b n (sk b n j) = -1
      · rw [if_pos c1]; exact h2
      · rw [if_neg c1]
        by_cases c2 : at_ b n (sk b n j) = 59
        · rw [if_pos c2]; exact ih _ _ h2
        · rw [if_neg c2]; trivial
end
