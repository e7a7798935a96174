-- the day on which most pairs clash
section
variable {d : Nat} {sh : List Kd} {σ : Sto} {Q : Option AV → List Kd → Sto → Prop} {t : Nat} {M : Sto} {Ls : List (List Cl)}
def ctL (g : Int → Int → Bool) : List (Int × Int) → Int
  | [] => 0
  | (a, b) :: l => (if g a b = true then 1 else 0) + ctL g l
theorem ctL_r (g : Int → Int → Bool) : ∀ l, 0 ≤ ctL g l ∧ ctL g l ≤ l.length := by
  intro l
  induction l with
  | nil => exact ⟨Int.le_refl _, Int.le_refl _⟩
  | cons x l ih =>
    obtain ⟨a, b⟩ := x
    simp only [ctL, List.length_cons]
    split <;> omega
def sB (f : Nat → Bool) : Nat → Nat
  | 0 => 0
  | n + 1 => (if f 0 = true then 1 else 0) + sB (fun i => f (i + 1)) n
theorem pcn_sB : ∀ (n s : Nat), pcn n s = sB s.testBit n := by
  intro n
  induction n with
  | zero => intro s; rfl
  | succ n ih =>
    intro s
    simp only [pcn, sB]
    rw [ih, show (fun i => s.testBit (i + 1)) = (s / 2).testBit from by funext i; rw [Nat.testBit_succ]]
    congr 1
    rw [Nat.testBit_zero]
    by_cases c : s % 2 = 1
    · rw [if_pos (decide_eq_true c)]; exact c
    · rw [if_neg (by rw [decide_eq_false c]; decide)]; omega
theorem nI1 (b : Bool) : ((if b = true then 1 else 0 : Nat) : Int) = (if b = true then (1 : Int) else 0) := by cases b <;> rfl
theorem bc_pairs {x P : Int} {g : Int → Int → Bool} (h0 : 0 ≤ P) (h1 : P ≤ 6) (h : mkI x (fun a b => decide (b < P) && g a b)) : bc x = ctL g (prL P 0 P.toNat) := by
  have hx : bc x = ((pcn 15 x.toNat : Nat) : Int) := by
    have := bc_15 (s := x.toNat) (by have := h.1; have := h.2.1; omega)
    rw [show ((x.toNat : Nat) : Int) = x by have := h.1; omega] at this
    exact this
  rw [hx, pcn_sB]
  have tb : ∀ a b, isPa a b → x.toNat.testBit (pix a b) = (decide (b < P) && g a b) := h.2.2
  have t0 := tb 0 1 ⟨by omega, by omega, by omega⟩
  have t1 := tb 0 2 ⟨by omega, by omega, by omega⟩
  have t2 := tb 1 2 ⟨by omega, by omega, by omega⟩
  have t3 := tb 0 3 ⟨by omega, by omega, by omega⟩
  have t4 := tb 1 3 ⟨by omega, by omega, by omega⟩
  have t5 := tb 2 3 ⟨by omega, by omega, by omega⟩
  have t6 := tb 0 4 ⟨by omega, by omega, by omega⟩
  have t7 := tb 1 4 ⟨by omega, by omega, by omega⟩
  have t8 := tb 2 4 ⟨by omega, by omega, by omega⟩
  have t9 := tb 3 4 ⟨by omega, by omega, by omega⟩
  have t10 := tb 0 5 ⟨by omega, by omega, by omega⟩
  have t11 := tb 1 5 ⟨by omega, by omega, by omega⟩
  have t12 := tb 2 5 ⟨by omega, by omega, by omega⟩
  have t13 := tb 3 5 ⟨by omega, by omega, by omega⟩
  have t14 := tb 4 5 ⟨by omega, by omega, by omega⟩
  simp only [show pix 0 1 = 0 from rfl, show pix 0 2 = 1 from rfl, show pix 1 2 = 2 from rfl, show pix 0 3 = 3 from rfl, show pix 1 3 = 4 from rfl, show pix 2 3 = 5 from rfl, show pix 0 4 = 6 from rfl, show pix 1 4 = 7 from rfl, show pix 2 4 = 8 from rfl, show pix 3 4 = 9 from rfl, show pix 0 5 = 10 from rfl, show pix 1 5 = 11 from rfl, show pix 2 5 = 12 from rfl, show pix 3 5 = 13 from rfl, show pix 4 5 = 14 from rfl] at t0 t1 t2 t3 t4 t5 t6 t7 t8 t9 t10 t11 t12 t13 t14
  simp only [sB, Nat.reduceAdd, Nat.zero_add, t0, t1, t2, t3, t4, t5, t6, t7, t8, t9, t10, t11, t12, t13, t14]
  clear t0 t1 t2 t3 t4 t5 t6 t7 t8 t9 t10 t11 t12 t13 t14 tb hx h
  rcases (show P = 0 ∨ P = 1 ∨ P = 2 ∨ P = 3 ∨ P = 4 ∨ P = 5 ∨ P = 6 by omega) with rfl | rfl | rfl | rfl | rfl | rfl | rfl
  · rfl
  · rfl
  · simp [prL, rowL, ctL]; try (repeat' split) <;> rfl
  · simp [prL, rowL, ctL]; repeat' split
    all_goals rfl
  · simp [prL, rowL, ctL]
    simp only [nI1]
    try generalize (if g 0 1 = true then (1 : Int) else 0) = a01
    try generalize (if g 0 2 = true then (1 : Int) else 0) = a02
    try generalize (if g 1 2 = true then (1 : Int) else 0) = a12
    try generalize (if g 0 3 = true then (1 : Int) else 0) = a03
    try generalize (if g 1 3 = true then (1 : Int) else 0) = a13
    try generalize (if g 2 3 = true then (1 : Int) else 0) = a23
    try generalize (if g 0 4 = true then (1 : Int) else 0) = a04
    try generalize (if g 1 4 = true then (1 : Int) else 0) = a14
    try generalize (if g 2 4 = true then (1 : Int) else 0) = a24
    try generalize (if g 3 4 = true then (1 : Int) else 0) = a34
    try generalize (if g 0 5 = true then (1 : Int) else 0) = a05
    try generalize (if g 1 5 = true then (1 : Int) else 0) = a15
    try generalize (if g 2 5 = true then (1 : Int) else 0) = a25
    try generalize (if g 3 5 = true then (1 : Int) else 0) = a35
    try generalize (if g 4 5 = true then (1 : Int) else 0) = a45
    omega
  · simp [prL, rowL, ctL]
    simp only [nI1]
    try generalize (if g 0 1 = true then (1 : Int) else 0) = a01
    try generalize (if g 0 2 = true then (1 : Int) else 0) = a02
    try generalize (if g 1 2 = true then (1 : Int) else 0) = a12
    try generalize (if g 0 3 = true then (1 : Int) else 0) = a03
    try generalize (if g 1 3 = true then (1 : Int) else 0) = a13
    try generalize (if g 2 3 = true then (1 : Int) else 0) = a23
    try generalize (if g 0 4 = true then (1 : Int) else 0) = a04
    try generalize (if g 1 4 = true then (1 : Int) else 0) = a14
    try generalize (if g 2 4 = true then (1 : Int) else 0) = a24
    try generalize (if g 3 4 = true then (1 : Int) else 0) = a34
    try generalize (if g 0 5 = true then (1 : Int) else 0) = a05
    try generalize (if g 1 5 = true then (1 : Int) else 0) = a15
    try generalize (if g 2 5 = true then (1 : Int) else 0) = a25
    try generalize (if g 3 5 = true then (1 : Int) else 0) = a35
    try generalize (if g 4 5 = true then (1 : Int) else 0) = a45
    omega
  · simp [prL, rowL, ctL]
    simp only [nI1]
    try generalize (if g 0 1 = true then (1 : Int) else 0) = a01
    try generalize (if g 0 2 = true then (1 : Int) else 0) = a02
    try generalize (if g 1 2 = true then (1 : Int) else 0) = a12
    try generalize (if g 0 3 = true then (1 : Int) else 0) = a03
    try generalize (if g 1 3 = true then (1 : Int) else 0) = a13
    try generalize (if g 2 3 = true then (1 : Int) else 0) = a23
    try generalize (if g 0 4 = true then (1 : Int) else 0) = a04
    try generalize (if g 1 4 = true then (1 : Int) else 0) = a14
    try generalize (if g 2 4 = true then (1 : Int) else 0) = a24
    try generalize (if g 3 4 = true then (1 : Int) else 0) = a34
    try generalize (if g 0 5 = true then (1 : Int) else 0) = a05
    try generalize (if g 1 5 = true then (1 : Int) else 0) = a15
    try generalize (if g 2 5 = true then (1 : Int) else 0) = a25
    try generalize (if g 3 5 = true then (1 : Int) else 0) = a35
    try generalize (if g 4 5 = true then (1 : Int) else 0) = a45
    omega
end
