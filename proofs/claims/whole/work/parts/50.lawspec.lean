-- the reader of a law: what it writes down, and where it stops
section
variable {d : Nat} {sh : List Kd} {σ : Sto} {Q : Option AV → List Kd → Sto → Prop}
/-- a reader: from a place on, what it writes and the place behind; or the place of the fault -/
abbrev Ps : Type := Int → (List Int × Int) ⊕ Int
def ltS (c : Int) : Int := if c = 97 then 0 else if c = 98 then 1 else if c = 110 then 4 else if c = 120 then 2 else if c = 121 then 3 else -1
def rlS (c : Int) : Int := if c = 61 then 9 else if c = 60 then 10 else if c = 62 then 11 else -1
theorem ltS_r (c : Int) : -1 ≤ ltS c ∧ ltS c ≤ 4 := by unfold ltS; repeat' split
                                                       all_goals omega
theorem rlS_r (c : Int) : rlS c = -1 ∨ (9 ≤ rlS c ∧ rlS c ≤ 11) := by unfold rlS; repeat' split
                                                                      all_goals omega
theorem c_letter {c : Int} : Ex d mX8_letter 0 [some (.inl c)] [] sh σ Q = Q (some (.inl (ltS c))) sh σ := by
  simp only [sX8_letter_0, sX8_letter_1, sX8_letter_52, sX8_letter_53, sX8_letter_54, sX8_letter_55, sX8_letter_56, sX8_letter_57, sX8_letter_58, sX8_letter_59, sX8_letter_60, sX8_letter_61, sX8_letter_62, sX8_letter_63, up_s, up_k, up_i, clr_n, clr_i, clr_j, clr_r, catS_n, catS_i, catS_j, catS_r, Option.toList_some, Option.toList_none, List.cons_append, List.nil_append, List.singleton_append, true_and, and_true, ne_eq, not_false_eq_true, not_true_eq_false, reduceCtorEq, if_true, if_false, true_or, or_true, false_or, or_false, Nat.reduceLT, Nat.reduceEqDiff, Nat.reduceAdd, Nat.reduceLeDiff, Int.reduceEq, Int.reduceNe, Int.reduceLT, Int.reduceLE, Int.reduceAdd, Int.reduceNeg, Int.reduceSub, Int.reduceMul, ltS]
  repeat' split
  all_goals rfl
theorem c_relation {c : Int} : Ex d mX8_relation 0 [some (.inl c)] [] sh σ Q = Q (some (.inl (rlS c))) sh σ := by
  simp only [sX8_relation_0, sX8_relation_1, sX8_relation_28, sX8_relation_30, sX8_relation_31, sX8_relation_33, sX8_relation_34, sX8_relation_36, sX8_relation_37, sX8_relation_38, up_s, up_k, up_i, clr_n, clr_i, clr_j, clr_r, catS_n, catS_i, catS_j, catS_r, Option.toList_some, Option.toList_none, List.cons_append, List.nil_append, List.singleton_append, true_and, and_true, ne_eq, not_false_eq_true, not_true_eq_false, reduceCtorEq, if_true, if_false, true_or, or_true, false_or, or_false, Nat.reduceLT, Nat.reduceEqDiff, Nat.reduceAdd, Nat.reduceLeDiff, Int.reduceEq, Int.reduceNe, Int.reduceLT, Int.reduceLE, Int.reduceAdd, Int.reduceNeg, Int.reduceSub, Int.reduceMul, rlS]
  repeat' split
  all_goals first | rfl | (exfalso; omega)
/-- what stands behind a sign that must stand there -/
def paC (b : Int → Int) (n c i : Int) : Int ⊕ Int := if at_ b n (sk b n i) = c then .inl (sk b n i + 1) else .inr (sk b n i)
def atS (b : Int → Int) (n : Int) (E : Option Ps) : Ps := fun i =>
  if at_ b n (sk b n i) = 91 then
    (match E with
     | none => .inr (sk b n i)
     | some S => match S (sk b n i + 1) with
       | .inr j => .inr j
       | .inl (w, j) => match paC b n 93 j with
         | .inl j1 => .inl (w, j1)
         | .inr j1 => .inr j1)
  else if ltS (at_ b n (sk b n i)) = -1 then
    (if (rdN b n 4 (sk b n i) 0).1 = sk b n i ∨ (48 ≤ at_ b n (rdN b n 4 (sk b n i) 0).1 ∧ at_ b n (rdN b n 4 (sk b n i) 0).1 ≤ 57) then .inr (rdN b n 4 (sk b n i) 0).1
     else .inl ([100 + (rdN b n 4 (sk b n i) 0).2], (rdN b n 4 (sk b n i) 0).1))
  else .inl ([ltS (at_ b n (sk b n i))], sk b n i + 1)
/-- more of the same kind, each behind a sign, each with a step behind it -/
def moS (b : Int → Int) (n : Int) (A : Ps) (op : Int → Int) : Nat → List Int → Int → (List Int × Int) ⊕ Int
  | 0, w, i => .inl (w, sk b n i)
  | f + 1, w, i => if op (at_ b n (sk b n i)) = -1 then .inl (w, sk b n i) else match A (sk b n i + 1) with
    | .inr j => .inr j
    | .inl (w1, j) => moS b n A op f (w ++ w1 ++ [op (at_ b n (sk b n i))]) j
/-- one and more of the same kind -/
def onS (b : Int → Int) (n : Int) (A : Ps) (op : Int → Int) : Ps := fun i => match A i with
  | .inr j => .inr j
  | .inl (w, j) => moS b n A op 160 w j
def opT (c : Int) : Int := if c = 42 then 7 else if c = 47 then 8 else -1
def opP (c : Int) : Int := if c = 43 then 5 else if c = 45 then 6 else -1
def opA (c : Int) : Int := if c = 38 then 12 else -1
def opO (c : Int) : Int := if c = 124 then 13 else -1
def suS (b : Int → Int) (n : Int) : Nat → Ps
  | 0 => onS b n (onS b n (atS b n none) opT) opP
  | D + 1 => onS b n (onS b n (atS b n (some (suS b n D))) opT) opP
/-- what is behind a first sum: a sign and another sum -/
def reS (b : Int → Int) (n : Int) (S : Ps) : Ps := fun i => if rlS (at_ b n (sk b n i)) = -1 then .inr (sk b n i) else match S (sk b n i + 1) with
  | .inr j => .inr j
  | .inl (w, j) => .inl (w ++ [rlS (at_ b n (sk b n i))], j)
def seS (A B : Ps) : Ps := fun i => match A i with
  | .inr j => .inr j
  | .inl (w, j) => match B j with
    | .inr j1 => .inr j1
    | .inl (w1, j1) => .inl (w ++ w1, j1)
def unS (b : Int → Int) (n : Int) (S : Ps) (U : Option Ps) : Ps := fun i =>
  if at_ b n (sk b n i) = 33 ∨ at_ b n (sk b n i) = 40 then
    (match U with
     | none => .inr (sk b n i)
     | some V => if at_ b n (sk b n i) = 40 then
         (match onS b n (onS b n V opA) opO (sk b n i + 1) with
          | .inr j => .inr j
          | .inl (w, j) => match paC b n 41 j with
            | .inl j1 => .inl (w, j1)
            | .inr j1 => .inr j1)
       else (match V (sk b n i + 1) with
          | .inr j => .inr j
          | .inl (w, j) => .inl (w ++ [14], j)))
  else seS S (reS b n S) (sk b n i)
def utS (b : Int → Int) (n : Int) : Nat → Ps
  | 0 => unS b n (suS b n 0) none
  | D + 1 => unS b n (suS b n (D + 1)) (some (utS b n D))
/-- a step that a program may hold below its branches -/
def cdK (x : Int) : Prop := (0 ≤ x ∧ x ≤ 14) ∨ (100 ≤ x ∧ x ≤ 10099)
/-- a reader goes on, and writes no more than it reads -/
def gdS (n : Int) (P : Ps) : Prop := ∀ i, 0 ≤ i → i ≤ n → match P i with
  | .inl (w, j) => i < j ∧ j ≤ n ∧ i + w.length ≤ j ∧ ∀ x ∈ w, cdK x
  | .inr j => i ≤ j ∧ j ≤ n
theorem rdN_hi (b : Int → Int) (n : Int) : ∀ (f : Nat) (i v : Int), (rdN b n f i v).2 < (v + 1) * 10 ^ f ∨ v < 0 := by
  intro f
  induction f with
  | zero => intro i v; simp only [rdN]; omega
  | succ f ih =>
    intro i v
    simp only [rdN]
    split
    · rename_i h
      have := ih (i + 1) (10 * v + at_ b n i - 48)
      by_cases hv : v < 0
      · exact Or.inr hv
      · left
        rcases this with q | q
        · refine Int.lt_of_lt_of_le q ?_
          rw [Int.pow_succ, Int.mul_comm _ 10, ← Int.mul_assoc]
          exact Int.mul_le_mul_of_nonneg_right (by omega) (Int.pow_nonneg (by omega))
        · omega
    · by_cases hv : v < 0
      · exact Or.inr hv
      · left
        have : (1 : Int) ≤ 10 ^ (f + 1) := by have := Int.pow_pos (n := 10) (m := f + 1) (by omega); omega
        have := Int.mul_le_mul_of_nonneg_left this (show 0 ≤ v + 1 by omega)
        simp only [Int.mul_one] at this
        omega
end
