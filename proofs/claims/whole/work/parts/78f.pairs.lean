-- sets of pairs
section
variable {d : Nat} {sh : List Kd} {σ : Sto} {Q : Option AV → List Kd → Sto → Prop} {t : Nat} {M : Sto} {Ls : List (List Cl)}
/-- the number of a pair -/
def pix (a b : Int) : Nat := b.toNat * (b.toNat - 1) / 2 + a.toNat
theorem pix_in : ∀ a b a' b' : Fin 6, a < b → a' < b' → b.val * (b.val - 1) / 2 + a.val = b'.val * (b'.val - 1) / 2 + a'.val → a = a' ∧ b = b' := by decide +kernel
theorem pix_le : ∀ a b : Fin 6, a < b → b.val * (b.val - 1) / 2 + a.val < 15 := by decide +kernel
theorem pix_ex : ∀ i : Fin 15, ∃ a b : Fin 6, a < b ∧ b.val * (b.val - 1) / 2 + a.val = i.val := by decide +kernel
def isPa (a b : Int) : Prop := 0 ≤ a ∧ a < b ∧ b < 6
theorem pix_lt {a b : Int} (h : isPa a b) : pix a b < 15 := pix_le ⟨a.toNat, by have := h.1; have := h.2; omega⟩ ⟨b.toNat, by have := h.1; have := h.2; omega⟩ (by have := h.1; have := h.2; show a.toNat < b.toNat; omega)
theorem pix_inj {a b a' b' : Int} (h : isPa a b) (h' : isPa a' b') (e : pix a b = pix a' b') : a = a' ∧ b = b' := by
  obtain ⟨h0, h1, h2⟩ := h
  obtain ⟨g0, g1, g2⟩ := h'
  have := pix_in ⟨a.toNat, by omega⟩ ⟨b.toNat, by omega⟩ ⟨a'.toNat, by omega⟩ ⟨b'.toNat, by omega⟩ (by show a.toNat < b.toNat; omega) (by show a'.toNat < b'.toNat; omega) e
  simp only [Fin.mk.injEq] at this
  omega
theorem pix_sur {i : Nat} (h : i < 15) : ∃ a b : Int, isPa a b ∧ pix a b = i := by
  obtain ⟨a, b, h1, h2⟩ := pix_ex ⟨i, h⟩
  have ha := a.isLt
  have hb := b.isLt
  have h1' : a.val < b.val := h1
  exact ⟨a.val, b.val, ⟨by omega, by omega, by omega⟩, h2⟩
/-- a number that holds these pairs -/
def mkI (x : Int) (f : Int → Int → Bool) : Prop := 0 ≤ x ∧ x < 32768 ∧ ∀ a b, isPa a b → x.toNat.testBit (pix a b) = f a b
theorem mkI.cg {x : Int} {f g : Int → Int → Bool} (h : mkI x f) (e : ∀ a b, isPa a b → f a b = g a b) : mkI x g := ⟨h.1, h.2.1, fun a b p => (h.2.2 a b p).trans (e a b p)⟩
theorem mkI_0 : mkI 0 (fun _ _ => false) := ⟨by omega, by omega, fun a b _ => by simp⟩
theorem zor_t {x y : Int} (hx : 0 ≤ x ∧ x < 32768) (hy : 0 ≤ y ∧ y < 32768) : 0 ≤ zor x y ∧ zor x y < 32768 ∧ (zor x y).toNat = x.toNat ||| y.toNat := by
  have e := zor_n (a := x.toNat) (b := y.toNat) (by omega) (by omega)
  rw [show ((x.toNat : Nat) : Int) = x by omega, show ((y.toNat : Nat) : Int) = y by omega] at e
  have l := Nat.or_lt_two_pow (n := 15) (x := x.toNat) (y := y.toNat) (by omega) (by omega)
  rw [e]
  refine ⟨by omega, by omega, rfl⟩
theorem zand_t {x y : Int} (hx : 0 ≤ x ∧ x < 32768) (hy : 0 ≤ y ∧ y < 32768) : 0 ≤ zand x y ∧ zand x y < 32768 ∧ (zand x y).toNat = x.toNat &&& y.toNat := by
  have e := zand_n (a := x.toNat) (b := y.toNat) (by omega) (by omega)
  rw [show ((x.toNat : Nat) : Int) = x by omega, show ((y.toNat : Nat) : Int) = y by omega] at e
  have l := Nat.and_lt_two_pow (n := 15) x.toNat (y := y.toNat) (by omega)
  rw [e]
  refine ⟨by omega, by omega, rfl⟩
theorem mkI.or {x y : Int} {f g : Int → Int → Bool} (h : mkI x f) (h' : mkI y g) : mkI (zor x y) (fun a b => f a b || g a b) := by
  have z := zor_t ⟨h.1, h.2.1⟩ ⟨h'.1, h'.2.1⟩
  exact ⟨z.1, z.2.1, fun a b p => by rw [z.2.2, Nat.testBit_or, h.2.2 a b p, h'.2.2 a b p]⟩
theorem mkI.and {x y : Int} {f g : Int → Int → Bool} (h : mkI x f) (h' : mkI y g) : mkI (zand x y) (fun a b => f a b && g a b) := by
  have z := zand_t ⟨h.1, h.2.1⟩ ⟨h'.1, h'.2.1⟩
  exact ⟨z.1, z.2.1, fun a b p => by rw [z.2.2, Nat.testBit_and, h.2.2 a b p, h'.2.2 a b p]⟩
theorem mkI.eq {x y : Int} {f : Int → Int → Bool} (h : mkI x f) (h' : mkI y f) : x = y := by
  have : x.toNat = y.toNat := by
    refine Nat.eq_of_testBit_eq (fun i => ?_)
    by_cases c : i < 15
    · obtain ⟨a, b, p, e⟩ := pix_sur c
      rw [← e, h.2.2 a b p, h'.2.2 a b p]
    · have l : 2 ^ 15 ≤ 2 ^ i := Nat.pow_le_pow_right (by omega) (by omega)
      rw [Nat.testBit_lt_two_pow (by have := h.2.1; have := h.1; omega), Nat.testBit_lt_two_pow (by have := h'.2.1; have := h'.1; omega)]
  have := h.1
  have := h'.1
  omega
theorem mkI.zero {x : Int} {f : Int → Int → Bool} (h : mkI x f) : x = 0 ↔ ∀ a b, isPa a b → f a b = false := by
  constructor
  · intro e a b p
    rw [← h.2.2 a b p, e]; simp
  · intro e
    exact mkI.eq (h.cg e) mkI_0
/-- the bit of a pair -/
theorem mkI_1 {a b : Int} (h : isPa a b) : mkI ((2 ^ pix a b : Nat) : Int) (fun a' b' => decide (a' = a ∧ b' = b)) := by
  have l := pix_lt h
  have l2 : 2 ^ pix a b < 2 ^ 15 := Nat.pow_lt_pow_right (by omega) l
  have tb : ∀ i, (2 ^ pix a b).testBit i = decide (pix a b = i) := fun i => Nat.testBit_two_pow
  generalize 2 ^ pix a b = x at *
  refine ⟨by omega, by omega, fun a' b' p => ?_⟩
  show (x : Int).toNat.testBit (pix a' b') = decide (a' = a ∧ b' = b)
  rw [Int.toNat_natCast, tb]
  by_cases c : a' = a ∧ b' = b
  · rw [decide_eq_true c, c.1, c.2]; exact decide_eq_true rfl
  · rw [decide_eq_false c]
    refine decide_eq_false (fun e => c ?_)
    have := pix_inj h p e
    exact ⟨this.1.symm, this.2.symm⟩
theorem c_pairBit {a b : Int} (h : isPa a b) : Ex d mX11_pairBit 0 [(some (.inl (a))), (some (.inl (b)))] [] sh σ Q = Q (some (.inl (((2 ^ pix a b : Nat) : Int)))) sh σ := by
  obtain ⟨h0, h1, h2⟩ := id h
  have l := pix_lt h
  have e1 : w32 (b - 1) = b - 1 := w32_of ⟨by omega, by omega⟩
  have e2 : zdiv (w32 (b * (b - 1))) 2 = ((b.toNat * (b.toNat - 1) / 2 : Nat) : Int) := by
    rcases (show b = 1 ∨ b = 2 ∨ b = 3 ∨ b = 4 ∨ b = 5 by omega) with rfl | rfl | rfl | rfl | rfl <;> decide
  have e3 : w32 (((b.toNat * (b.toNat - 1) / 2 : Nat) : Int) + a) = ((pix a b : Nat) : Int) := by
    unfold pix at l ⊢
    rw [w32_of ⟨by omega, by omega⟩]
    omega
  simp only [sX11_pairBit_0, sX11_pairBit_1, sX11_pairBit_2, sX11_pairBit_3, sX11_pairBit_4, sX11_pairBit_5, sX11_pairBit_6, sX11_pairBit_7, sX11_pairBit_8, sX11_pairBit_9, sX11_pairBit_10, sX11_pairBit_11, up_s, up_k, up_i, clr_n, clr_i, clr_j, clr_r, catS_n, catS_i, catS_j, catS_r, Option.toList_some, Option.toList_none, List.cons_append, List.nil_append, List.singleton_append, true_and, and_true, ne_eq, not_false_eq_true, not_true_eq_false, reduceCtorEq, if_true, if_false, true_or, or_true, false_or, or_false, Nat.reduceLT, Nat.reduceEqDiff, Nat.reduceAdd, Nat.reduceLeDiff, Int.reduceEq, Int.reduceNe, Int.reduceLT, Int.reduceLE, Int.reduceAdd, Int.reduceNeg, Int.reduceSub, Int.reduceMul, e1, e2, e3]
  rw [zshl_1 _ (by omega)]
end
